import java.util.Arrays;
import java.util.NoSuchElementException;

/**
 * A register of gifts to those in office. The face keeps the day, the tape and OUT;
 * the classes inside keep the facts and answer for the day and the knowledge asked for.
 */
public final class GiftRegister {
    public static final int NONE = -1;

    private static final int LAST_DAY = 9999;
    private static final int MOST_PARTIES = 60;
    private static final int MOST_OWNS = 200;
    private static final int MOST_KIN = 100;
    private static final int MOST_POSTS = 60;
    private static final int MOST_GIFTS = 120;
    private static final int MOST_WORTH = 1000000;
    private static final int TAPE_LIMIT = 540;
    private static final int WHOLE = 10000;
    private static final int FAR = 5;

    // The words that a law may use; what an atom tells stands in the row of values under its number.
    private static final int FOREIGN = 4;
    private static final int BACK = 5;
    private static final int LEAST = 6;
    private static final int MOST = 7;
    private static final int KIN = 8;
    private static final int SUM = 9;
    private static final int COUNT = 10;
    private static final int POST = 11;
    private static final int PART = 12;
    private static final int KINPART = 13;
    private static final int NOT = 14;
    private static final int AND = 15;
    private static final int OR = 16;
    private static final int IF = 17;
    private static final int WITHIN = 18;
    private static final int TELL = 19;
    private static final int SIT = 20;
    private static final int MAY = 21;
    private static final int YEAR = 22;
    private static final int OLD = 23;
    private static final int LINK = 24;
    private static final int QUORUM = 25;

    private final int[] tape = new int[TAPE_LIMIT];
    private int tapeLength;
    private final int[] out = new int[Chains.MOST_STEPS + 1];
    private int outLength;
    private int today;

    private final Parties parties = new Parties();
    private final Owners owners = new Owners();
    private final Chains chains = new Chains(owners);
    private final Spans posts = new Spans(MOST_POSTS);
    private final Gifts gifts = new Gifts();
    private final LawBook laws = new LawBook();
    private final Judge judge = new Judge(parties, owners, chains, posts, gifts, laws);
    private final Lists lists = new Lists(parties, owners, gifts);
    private final Council council = new Council(judge);

    public GiftRegister() {
    }

    public int feed(int a, int b, int c, int d, int e) {
        if (tapeLength < 0 || tapeLength + 20 > TAPE_LIMIT) {
            return NONE;
        }
        putNumber(a);
        putNumber(b);
        putNumber(c);
        putNumber(d);
        putNumber(e);
        return tapeLength;
    }

    private void putNumber(int number) {
        for (int shift = 24; shift >= 0; shift -= 8) {
            if (tapeLength >= 0 && tapeLength < TAPE_LIMIT) {
                tape[tapeLength] = number >> shift & 255;
                tapeLength++;
            }
        }
    }

    public boolean end(int n) {
        if (n < 0 || n > tapeLength) {
            return false;
        }
        tapeLength = n;
        return true;
    }

    public int next(int n) {
        if (n < 0 || n > LAST_DAY || today + n > LAST_DAY) {
            return NONE;
        }
        today += n;
        return today;
    }

    public int party(int sort) {
        return parties.add(sort, takeName());
    }

    /** The name on the tape, NONE if it holds no name; the tape is empty then. */
    private long takeName() {
        int length = tapeLength;
        tapeLength = 0;
        return Parties.nameOf(tape, length);
    }

    public int owns(int owner, int f, int part, int from, int until) {
        if (!parties.has(owner) || !parties.canBeHeld(f) || owner == f || part < 1 || part > WHOLE) {
            return -2;
        }
        if (!isSpan(from, until, 1)) {
            return -3;
        }
        if (owners.exceedsWhole(f, part, from, until)) {
            return -4;
        }
        return owners.add(owner, f, part, from, until, today);
    }

    /** Whether until is none, or a day that stands at least so many days behind from. */
    private static boolean isSpan(int from, int until, int apart) {
        if (!isDay(from)) {
            return false;
        }
        return until == NONE || isDay(until) && until >= from + apart;
    }

    private static boolean isDay(int day) {
        return day >= 0 && day <= LAST_DAY;
    }

    public int kin(int a, int b, int from, int until) {
        if (!parties.isPerson(a) || !parties.isPerson(b) || a == b) {
            return -2;
        }
        if (!isSpan(from, until, 1)) {
            return -3;
        }
        return parties.addKin(a, b, from, until, today);
    }

    public int post(int person, int f, int from, int until) {
        if (!parties.isPerson(person) || !parties.canBeHeld(f)) {
            return -2;
        }
        if (!isSpan(from, until, 0)) {
            return -3;
        }
        return posts.add(person, f, 0, from, until, today);
    }

    public int gift(int giver, int person, int kind, int day, boolean foreign, int least, int most) {
        if (!parties.has(giver) || !parties.isPerson(person) || giver == person) {
            return -2;
        }
        if (kind < 0 || kind > 3 || !isDay(day)) {
            return -3;
        }
        if (!isRange(least, most)) {
            return -4;
        }
        int g = gifts.add(giver, person, kind, day, today);
        if (g == NONE) {
            return -5;
        }
        gifts.describe(g, foreign, least, most);
        return g;
    }

    private static boolean isRange(int least, int most) {
        return 0 <= least && least <= most && most <= MOST_WORTH;
    }

    public boolean worth(int g, int least, int most) {
        return gifts.has(g) && isRange(least, most) && gifts.addWorth(g, least, most, today);
    }

    public boolean back(int g, int day) {
        return isDay(day) && gifts.giveBack(g, day, today);
    }

    public boolean tell(int g) {
        return gifts.noteTold(g, today);
    }

    public int law(int from) {
        int length = tapeLength;
        tapeLength = 0;
        return laws.add(from, today, tape, length);
    }

    public int fault() {
        return laws.lastFault();
    }

    public long part(int x, int f, int d, int t) {
        if (!parties.has(x) || !parties.has(f) || !isDay(d)) {
            return NONE;
        }
        return chains.partOf(x, f, d, t);
    }

    public int chain(int x, int f, int d, int t) {
        if (!parties.has(x) || !parties.has(f) || !isDay(d)) {
            return NONE;
        }
        int length = chains.findBest(x, f, d, t);
        if (length > 0) {
            outLength = chains.copyBest(out);
        }
        return length;
    }

    public int octet(int k) throws NoSuchElementException {
        if (k < 0 || k >= outLength || k >= out.length) {
            throw new NoSuchElementException("no such byte of OUT");
        }
        return out[k];
    }

    public int head(int x, int d, int t) {
        if (!parties.has(x) || !isDay(d)) {
            return NONE;
        }
        return owners.headOf(x, d, t);
    }

    public int degree(int a, int b, int d, int t) {
        if (!parties.isPerson(a) || !parties.isPerson(b) || !isDay(d)) {
            return NONE;
        }
        return parties.degreeOf(a, b, d, t);
    }

    public int judged(int g, int t, int what) throws NoSuchElementException {
        if (!gifts.isKnown(g, t) || what < 0 || what > 8) {
            throw new NoSuchElementException("no such gift is known then, or no such answer");
        }
        switch (what) {
            case 3:
                return gifts.leastOf(g, t);
            case 4:
                return gifts.mostOf(g, t);
            case 5:
                return gifts.backOn(g, t);
            case 6:
                return gifts.toldOn(g, t);
            default:
                return judge.answerFor(g, t, what);
        }
    }

    public int member(int person) {
        return parties.isPerson(person) ? council.addMember(person) : NONE;
    }

    public int matter(int f, int day) {
        return parties.has(f) && isDay(day) ? council.addMatter(f, day) : NONE;
    }

    public int sits(int m, int person, int t) {
        if (!council.hasMatter(m) || !parties.isPerson(person)) {
            return NONE;
        }
        return council.dutyOf(m, person, t);
    }

    public int quorum(int m, int t) {
        return council.hasMatter(m) ? council.quorumOf(m, t) : -100;
    }

    public int entry(int giver, int day, int worth) {
        long name = takeName();
        if (!parties.has(giver) || name == NONE || !isDay(day) || worth < 0 || worth > MOST_WORTH) {
            return NONE;
        }
        return lists.add(giver, name, day, worth, today);
    }

    public int joined(int t) {
        return lists.join(t);
    }

    public int entered(int e, int t, int what) throws NoSuchElementException {
        if (!lists.isKnown(e, t) || what < 0 || what > 2) {
            throw new NoSuchElementException("no such entry is known then, or no such answer");
        }
        if (what == 0) {
            lists.join(t);
            return lists.giftJoined(e);
        }
        int bearers = lists.bearersOf(e);
        if (what == 2) {
            return bearers;
        }
        return bearers == 1 ? 0 : 1;
    }

    public int vote(int m, int person, boolean isFor) {
        return council.addVote(m, person, isFor, today);
    }

    public int links(int t, int what) {
        return what < 0 || what > 3 ? NONE : council.tallyOf(t, what);
    }

    public long chance(int t, int what) throws NoSuchElementException {
        if (what < 0 || what > 1 || council.tallyOf(t, 0) > Council.MOST_DRAWN) {
            throw new NoSuchElementException("too many votes are known then, or no such answer");
        }
        return council.chanceOf(t, what);
    }

    public int asked(int person, int t, int what) {
        if (!parties.isPerson(person) || what < 0 || what > 5) {
            return NONE;
        }
        return what == 5 ? chains.greatestPart(person, t) : judge.recordOf(person, t, what);
    }

    public int count(int what) {
        switch (what) {
            case 0:
                return today;
            case 1:
                return parties.total();
            case 2:
                return owners.total();
            case 3:
                return parties.totalKin();
            case 4:
                return posts.total();
            case 5:
                return gifts.total();
            case 6:
                return laws.total();
            case 7:
                return council.totalMatters();
            case 8:
                return lists.total();
            case 9:
                return council.totalVotes();
            case 10:
                return council.totalMembers();
            case 11:
                return tapeLength;
            case 12:
                return outLength;
            default:
                return NONE;
        }
    }

    /** Facts between two parties that last from a day on; the numbers are those in which they came. */
    private static final class Spans {
        private final int[] firsts;
        private final int[] seconds;
        private final int[] parts;
        private final int[] froms;
        private final int[] untils;
        private final int[] knowns;
        private int size;

        Spans(int limit) {
            int rows = limit < 0 ? 0 : limit;
            firsts = new int[rows];
            seconds = new int[rows];
            parts = new int[rows];
            froms = new int[rows];
            untils = new int[rows];
            knowns = new int[rows];
        }

        /** The number of the new fact, or -5 if there is no room for it. */
        int add(int first, int second, int part, int from, int until, int known) {
            if (size < 0 || size >= firsts.length) {
                return -5;
            }
            firsts[size] = first;
            seconds[size] = second;
            parts[size] = part;
            froms[size] = from;
            untils[size] = until;
            knowns[size] = known;
            size++;
            return size - 1;
        }

        int total() {
            return size;
        }

        int first(int i) {
            return i >= 0 && i < firsts.length ? firsts[i] : NONE;
        }

        int second(int i) {
            return i >= 0 && i < seconds.length ? seconds[i] : NONE;
        }

        int share(int i) {
            return i >= 0 && i < parts.length ? parts[i] : 0;
        }

        int start(int i) {
            return i >= 0 && i < froms.length ? froms[i] : NONE;
        }

        int stop(int i) {
            return i >= 0 && i < untils.length ? untils[i] : NONE;
        }

        boolean isKnown(int i, int t) {
            return i >= 0 && i < size && i < knowns.length && knowns[i] <= t;
        }

        /** Whether it lasts on the day, whenever it was told. */
        boolean covers(int i, int d) {
            return i >= 0 && i < size && i < froms.length && i < untils.length
                    && froms[i] <= d && (untils[i] == NONE || d < untils[i]);
        }
    }

    /** Who there is, and who is kin to whom. */
    private static final class Parties {
        private static final int LONGEST_NAME = 12;

        private final int[] sorts = new int[MOST_PARTIES];
        private final long[] names = new long[MOST_PARTIES];
        private int size;

        private final Spans kinships = new Spans(MOST_KIN);
        private final int[] degrees = new int[MOST_PARTIES];
        // What the row of degrees was last made for; nobody at first.
        private int spreadFrom = NONE;
        private int spreadDay;
        private int spreadAsOf;
        private int spreadRows;

        /** The letters packed by five bits each, so that two names are alike when their numbers are. */
        static long nameOf(int[] bytes, int length) {
            if (bytes == null || length < 1 || length > LONGEST_NAME || length > bytes.length) {
                return NONE;
            }
            long name = 0;
            for (int i = 0; i < length; i++) {
                if (bytes[i] < 'a' || bytes[i] > 'z') {
                    return NONE;
                }
                name = name << 5 | bytes[i] - 'a' + 1;
            }
            return name;
        }

        int add(int sort, long name) {
            if (size < 0 || size >= MOST_PARTIES || sort < 0 || sort > 2 || name == NONE) {
                return NONE;
            }
            sorts[size] = sort;
            names[size] = name;
            size++;
            return size - 1;
        }

        int total() {
            return size;
        }

        boolean has(int x) {
            return x >= 0 && x < size && x < MOST_PARTIES;
        }

        boolean isPerson(int x) {
            return has(x) && sorts[x] == 0;
        }

        /** Firms and trusts have owners and posts, people have not. */
        boolean canBeHeld(int x) {
            return has(x) && sorts[x] != 0;
        }

        boolean isNamed(int x, long name) {
            return has(x) && names[x] == name;
        }

        int peopleNamed(long name) {
            int people = 0;
            for (int x = 0; x < size; x++) {
                if (isPerson(x) && isNamed(x, name)) {
                    people++;
                }
            }
            return people;
        }

        int addKin(int a, int b, int from, int until, int known) {
            return kinships.add(a, b, 0, from, until, known);
        }

        int totalKin() {
            return kinships.total();
        }

        int degreeOf(int a, int b, int d, int t) {
            if (!has(a) || !has(b)) {
                return FAR;
            }
            spread(a, d, t);
            return degrees[b];
        }

        /** Degrees from one person to all, one more kin at each turn. */
        private void spread(int from, int d, int t) {
            int rows = kinships.total();
            if (from == spreadFrom && d == spreadDay && t == spreadAsOf && rows == spreadRows) {
                return;
            }
            spreadFrom = from;
            spreadDay = d;
            spreadAsOf = t;
            spreadRows = rows;
            Arrays.fill(degrees, FAR);
            if (has(from)) {
                degrees[from] = 0;
            }
            for (int degree = 1; degree < FAR; degree++) {
                for (int i = 0; i < rows; i++) {
                    if (kinships.isKnown(i, t) && kinships.covers(i, d)) {
                        reach(kinships.first(i), kinships.second(i), degree);
                        reach(kinships.second(i), kinships.first(i), degree);
                    }
                }
            }
        }

        private void reach(int near, int other, int degree) {
            boolean areThere = near >= 0 && near < MOST_PARTIES && other >= 0 && other < MOST_PARTIES;
            if (areThere && degrees[near] == degree - 1 && degrees[other] == FAR) {
                degrees[other] = degree;
            }
        }
    }

    /** Parts in firms and trusts: what holds on one day as of another, and who controls whom then. */
    private static final class Owners {
        private static final int HALF = 5000;

        private final Spans holdings = new Spans(MOST_OWNS);
        // The numbers of the holdings by owner, then by what is owned, so that a day's arrows come in order.
        private final int[] order = new int[MOST_OWNS];

        // The arrows of the day: those of x are starts[x] up to the one ahead of starts[x + 1].
        private final int[] starts = new int[MOST_PARTIES + 1];
        private final int[] targets = new int[MOST_OWNS];
        private final int[] parts = new int[MOST_OWNS];
        private int loadedDay = NONE;
        private int loadedAsOf;
        private int loadedRows = NONE;

        private final int[] heads = new int[MOST_PARTIES];
        private final long[] controlled = new long[MOST_PARTIES];
        private final int[] together = new int[MOST_PARTIES];
        private final int[] queue = new int[MOST_PARTIES];
        private boolean headsFound;

        int total() {
            return holdings.total();
        }

        /** Whether one part more makes more than the whole on some day; it can only on a day when a part begins. */
        boolean exceedsWhole(int f, int part, int from, int until) {
            if (isTooMuch(f, part, from)) {
                return true;
            }
            for (int i = 0; i < holdings.total(); i++) {
                int start = holdings.start(i);
                if (holdings.second(i) == f && start > from && (until == NONE || start < until)
                        && isTooMuch(f, part, start)) {
                    return true;
                }
            }
            return false;
        }

        private boolean isTooMuch(int f, int part, int d) {
            int sum = part;
            for (int i = 0; i < holdings.total(); i++) {
                if (holdings.second(i) == f && holdings.covers(i, d)) {
                    sum += holdings.share(i);
                }
            }
            return sum > WHOLE;
        }

        int add(int owner, int f, int part, int from, int until, int known) {
            int row = holdings.add(owner, f, part, from, until, known);
            if (row < 0 || row >= MOST_OWNS) {
                return row;
            }
            int at = row;
            while (at > 0 && comesBehind(order[at - 1], owner, f)) {
                order[at] = order[at - 1];
                at--;
            }
            order[at] = row;
            return row;
        }

        private boolean comesBehind(int row, int owner, int f) {
            int first = holdings.first(row);
            return first > owner || first == owner && holdings.second(row) > f;
        }

        /** Makes the arrows of the day, those between the same two as one. */
        void load(int d, int t) {
            int rows = holdings.total();
            if (d == loadedDay && t == loadedAsOf && rows == loadedRows) {
                return;
            }
            loadedDay = d;
            loadedAsOf = t;
            loadedRows = rows;
            headsFound = false;
            int owner = 0;
            int filled = 0;
            starts[0] = 0;
            for (int i = 0; i < rows && i < MOST_OWNS; i++) {
                int row = order[i];
                if (!holdings.isKnown(row, t) || !holdings.covers(row, d)) {
                    continue;
                }
                while (owner < holdings.first(row) && owner < MOST_PARTIES) {
                    owner++;
                    starts[owner] = filled;
                }
                int target = holdings.second(row);
                if (filled > starts[owner] && targets[filled - 1] == target) {
                    parts[filled - 1] += holdings.share(row);
                } else if (filled < MOST_OWNS) {
                    targets[filled] = target;
                    parts[filled] = holdings.share(row);
                    filled++;
                }
            }
            while (owner < MOST_PARTIES) {
                owner++;
                starts[owner] = filled;
            }
        }

        int firstArrow(int x) {
            return x >= 0 && x < MOST_PARTIES ? starts[x] : 0;
        }

        int pastArrows(int x) {
            return x >= 0 && x < MOST_PARTIES ? starts[x + 1] : 0;
        }

        int targetOf(int arrow) {
            return arrow >= 0 && arrow < MOST_OWNS ? targets[arrow] : NONE;
        }

        int partOn(int arrow) {
            return arrow >= 0 && arrow < MOST_OWNS ? parts[arrow] : 0;
        }

        int headOf(int x, int d, int t) {
            load(d, t);
            if (!headsFound) {
                findHeads();
            }
            return x >= 0 && x < MOST_PARTIES ? heads[x] : NONE;
        }

        private void findHeads() {
            long ruled = 0;
            for (int x = 0; x < MOST_PARTIES; x++) {
                controlled[x] = controlledBy(x);
                ruled |= controlled[x];
            }
            for (int x = 0; x < MOST_PARTIES; x++) {
                heads[x] = headAmong(x, ruled);
            }
            headsFound = true;
        }

        /** All others that x controls, as bits, found by going on from x alone. */
        private long controlledBy(int x) {
            Arrays.fill(together, 0);
            long found = 0;
            int waiting = 1;
            queue[0] = x;
            for (int taken = 0; taken < waiting && taken < MOST_PARTIES; taken++) {
                int past = pastArrows(queue[taken]);
                for (int arrow = firstArrow(queue[taken]); arrow < past; arrow++) {
                    int f = targetOf(arrow);
                    if (f >= 0 && f < MOST_PARTIES && f != x && (found >> f & 1) == 0) {
                        together[f] += partOn(arrow);
                        if (together[f] > HALF && waiting < MOST_PARTIES) {
                            found |= 1L << f;
                            queue[waiting] = f;
                            waiting++;
                        }
                    }
                }
            }
            return found;
        }

        /** The least that controls x and is not ruled itself; without such a one, the least of all of them and x. */
        private int headAmong(int x, long ruled) {
            int least = x;
            for (int y = 0; y < MOST_PARTIES; y++) {
                if ((controlled[y] >> x & 1) != 0) {
                    if ((ruled >> y & 1) == 0) {
                        return y;
                    }
                    least = Math.min(least, y);
                }
            }
            return least;
        }
    }

    /** Walks along the arrows of a day, never through a party twice. */
    private static final class Chains {
        static final int MOST_STEPS = 4;
        private static final long UNIT = 10000000000000000L;
        private static final long CUT = 1000000000000L;

        private final Owners owners;
        private final long[] totals = new long[MOST_PARTIES];
        private final int[] path = new int[MOST_STEPS + 1];
        private final int[] best = new int[MOST_STEPS + 1];
        private int bestLength;
        private long bestProduct;
        private int goal;
        private long onPath;

        Chains(Owners owners) {
            this.owners = owners;
        }

        long partOf(int x, int f, int d, int t) {
            walk(x, NONE, d, t);
            return f >= 0 && f < MOST_PARTIES ? totals[f] : 0;
        }

        /** The part in ten thousandths, cut; one has all of oneself. */
        int cutPartOf(int x, int f, int d, int t) {
            if (x == f) {
                return WHOLE;
            }
            walk(x, NONE, d, t);
            return f >= 0 && f < MOST_PARTIES ? (int) (totals[f] / CUT) : 0;
        }

        /** The greatest part that x has in any party on day t as of t, in ten thousandths, cut. */
        int greatestPart(int x, int t) {
            walk(x, NONE, t, t);
            long greatest = 0;
            for (int f = 0; f < MOST_PARTIES; f++) {
                greatest = Math.max(greatest, totals[f]);
            }
            return (int) (greatest / CUT);
        }

        /** How many parties the greatest chain has; 0 if there is no chain. */
        int findBest(int x, int f, int d, int t) {
            walk(x, f, d, t);
            return bestLength;
        }

        int copyBest(int[] to) {
            int copied = 0;
            for (int i = 0; i < bestLength && i < best.length && i < to.length; i++) {
                to[i] = best[i];
                copied++;
            }
            return copied;
        }

        private void walk(int x, int f, int d, int t) {
            owners.load(d, t);
            Arrays.fill(totals, 0);
            bestLength = 0;
            bestProduct = 0;
            goal = f;
            path[0] = x;
            onPath = 1L << x;
            stepOn(this, 0, UNIT);
        }

        /** The product stays exact: each of the four steps takes one factor 10000 out of the unit. */
        private static void stepOn(Chains chains, int depth, long product) {
            if (depth < 0 || depth >= MOST_STEPS) {
                return;
            }
            int x = chains.path[depth];
            int past = chains.owners.pastArrows(x);
            for (int arrow = chains.owners.firstArrow(x); arrow < past; arrow++) {
                int y = chains.owners.targetOf(arrow);
                if (y >= 0 && y < MOST_PARTIES && (chains.onPath >> y & 1) == 0) {
                    long longer = product / WHOLE * chains.owners.partOn(arrow);
                    chains.totals[y] += longer;
                    chains.path[depth + 1] = y;
                    if (y == chains.goal) {
                        chains.keepBest(depth + 2, longer);
                    }
                    chains.onPath |= 1L << y;
                    stepOn(chains, depth + 1, longer);
                    chains.onPath &= ~(1L << y);
                }
            }
        }

        /** Walks come by rising numbers, so of two alike the one that came first stays. */
        private void keepBest(int length, long product) {
            boolean isBetter = bestLength == 0 || product > bestProduct
                    || product == bestProduct && length < bestLength;
            if (!isBetter) {
                return;
            }
            bestLength = length;
            bestProduct = product;
            for (int i = 0; i < length && i < path.length && i < best.length; i++) {
                best[i] = path[i];
            }
        }
    }

    /** The gifts, what was told of their worth later, and whether they were given back or told. */
    private static final class Gifts {
        private static final int MOST_WORTHS = 200;

        private final int[] givers = new int[MOST_GIFTS];
        private final int[] receivers = new int[MOST_GIFTS];
        private final int[] kinds = new int[MOST_GIFTS];
        private final int[] days = new int[MOST_GIFTS];
        private final boolean[] foreigns = new boolean[MOST_GIFTS];
        private final int[] leasts = new int[MOST_GIFTS];
        private final int[] mosts = new int[MOST_GIFTS];
        private final int[] knowns = new int[MOST_GIFTS];
        private final int[] backDays = new int[MOST_GIFTS];
        private final int[] backKnowns = new int[MOST_GIFTS];
        private final int[] toldDays = new int[MOST_GIFTS];
        private int size;

        // The worths told later, in the order in which they came.
        private final int[] worthGifts = new int[MOST_WORTHS];
        private final int[] worthLeasts = new int[MOST_WORTHS];
        private final int[] worthMosts = new int[MOST_WORTHS];
        private final int[] worthKnowns = new int[MOST_WORTHS];
        private int worths;

        int add(int giver, int receiver, int kind, int day, int known) {
            if (size < 0 || size >= MOST_GIFTS) {
                return NONE;
            }
            givers[size] = giver;
            receivers[size] = receiver;
            kinds[size] = kind;
            days[size] = day;
            knowns[size] = known;
            backDays[size] = NONE;
            toldDays[size] = NONE;
            size++;
            return size - 1;
        }

        void describe(int g, boolean foreign, int least, int most) {
            if (has(g)) {
                foreigns[g] = foreign;
                leasts[g] = least;
                mosts[g] = most;
            }
        }

        int total() {
            return size;
        }

        boolean has(int g) {
            return g >= 0 && g < size && g < MOST_GIFTS;
        }

        boolean isKnown(int g, int t) {
            return has(g) && knowns[g] <= t;
        }

        int giver(int g) {
            return has(g) ? givers[g] : NONE;
        }

        int receiver(int g) {
            return has(g) ? receivers[g] : NONE;
        }

        int sortOf(int g) {
            return has(g) ? kinds[g] : NONE;
        }

        int dayOf(int g) {
            return has(g) ? days[g] : NONE;
        }

        boolean isForeign(int g) {
            return has(g) && foreigns[g];
        }

        boolean addWorth(int g, int least, int most, int known) {
            if (!has(g) || worths < 0 || worths >= MOST_WORTHS) {
                return false;
            }
            worthGifts[worths] = g;
            worthLeasts[worths] = least;
            worthMosts[worths] = most;
            worthKnowns[worths] = known;
            worths++;
            return true;
        }

        /** The latest worth that was told of the gift up to then, NONE if none was. */
        private int latestWorth(int g, int t) {
            for (int w = Math.min(worths, MOST_WORTHS) - 1; w >= 0; w--) {
                if (worthGifts[w] == g && worthKnowns[w] <= t) {
                    return w;
                }
            }
            return NONE;
        }

        int leastOf(int g, int t) {
            int w = latestWorth(g, t);
            if (w >= 0) {
                return worthLeasts[w];
            }
            return has(g) ? leasts[g] : 0;
        }

        int mostOf(int g, int t) {
            int w = latestWorth(g, t);
            if (w >= 0) {
                return worthMosts[w];
            }
            return has(g) ? mosts[g] : 0;
        }

        boolean giveBack(int g, int day, int known) {
            if (!has(g) || day < days[g] || backDays[g] != NONE) {
                return false;
            }
            backDays[g] = day;
            backKnowns[g] = known;
            return true;
        }

        /** The day on which it was given back, as far as was known. */
        int backOn(int g, int t) {
            return has(g) && backDays[g] != NONE && backKnowns[g] <= t ? backDays[g] : NONE;
        }

        boolean isBackBy(int g, int day, int t) {
            int back = backOn(g, t);
            return back != NONE && back <= day;
        }

        boolean noteTold(int g, int day) {
            if (!has(g) || toldDays[g] != NONE) {
                return false;
            }
            toldDays[g] = day;
            return true;
        }

        int toldOn(int g, int t) {
            return has(g) && toldDays[g] <= t ? toldDays[g] : NONE;
        }
    }

    /** A law's text read token by token; those that begin ahead of the edge are read whole. */
    private static final class Tokens {
        static final int END = 0;
        static final int BAD = 1;
        static final int WORD = 2;
        static final int NUMBER = 3;
        static final int EDGE = 500;
        private static final int MOST_DIGITS = 7;
        // In the order of the numbers of the words, each with a blank behind it.
        private static final String WORDS =
                "gift meal journey share foreign back least most kin sum count post part kinpart not and or if within tell sit may year old link quorum ";

        private int[] text;
        private int length;
        private int edge;
        private int place;
        private int past;
        // One of the kinds above, or the sign itself.
        private int kind;
        private int value;

        void open(int[] bytes, int many) {
            text = bytes;
            length = bytes == null ? 0 : Math.max(0, Math.min(many, bytes.length));
            edge = Math.min(length, EDGE);
            past = 0;
        }

        int kind() {
            return kind;
        }

        int value() {
            return value;
        }

        int place() {
            return place;
        }

        boolean isCutOff() {
            return length > EDGE;
        }

        private int byteAt(int i) {
            return text != null && i >= 0 && i < length && i < text.length ? text[i] : NONE;
        }

        void advance() {
            place = past;
            while (place < edge && isBlank(byteAt(place))) {
                place++;
            }
            past = place;
            value = NONE;
            if (place >= edge) {
                place = edge;
                past = edge;
                kind = END;
            } else if (isPlain(byteAt(place))) {
                takeRun();
            } else {
                past = place + 1;
                kind = isSign(byteAt(place)) ? byteAt(place) : BAD;
            }
        }

        private static boolean isBlank(int b) {
            return b == 32 || b == 10;
        }

        private static boolean isSign(int b) {
            return b == ';' || b == '(' || b == ')' || b == '<' || b == '=' || b == '>';
        }

        private static boolean isLetter(int b) {
            return b >= 'a' && b <= 'z';
        }

        private static boolean isDigit(int b) {
            return b >= '0' && b <= '9';
        }

        private static boolean isPlain(int b) {
            return isLetter(b) || isDigit(b);
        }

        /** Letters and digits that stand together are one token, or none if they are mixed. */
        private void takeRun() {
            int letters = 0;
            int digits = 0;
            int number = 0;
            while (past < length && isPlain(byteAt(past))) {
                if (isLetter(byteAt(past))) {
                    letters++;
                } else {
                    digits++;
                    number = digits <= MOST_DIGITS ? number * 10 + byteAt(past) - '0' : number;
                }
                past++;
            }
            if (digits == 0) {
                kind = WORD;
                value = wordFrom(place, letters);
            } else if (letters == 0 && digits <= MOST_DIGITS) {
                kind = NUMBER;
                value = number;
            } else {
                kind = BAD;
            }
        }

        private int wordFrom(int from, int letters) {
            int word = 0;
            int begin = 0;
            for (int i = 0; i < WORDS.length(); i++) {
                if (WORDS.charAt(i) == ' ') {
                    if (i - begin == letters && isSpelt(from, begin, letters)) {
                        return word;
                    }
                    word++;
                    begin = i + 1;
                }
            }
            return NONE;
        }

        private boolean isSpelt(int from, int begin, int letters) {
            for (int i = 0; i < letters && begin + i < WORDS.length(); i++) {
                if (byteAt(from + i) != WORDS.charAt(begin + i)) {
                    return false;
                }
            }
            return true;
        }
    }

    /** One law: its numbers, and its conditions with each link behind the two that it joins. */
    private static final class Law {
        static final int MOST_TELLS = 8;
        static final int SIT_RULE = 8;
        static final int MAY_RULE = 9;
        static final int DEFAULT_WITHIN = 30;
        private static final int DEFAULT_KIN = 1;
        private static final int DEFAULT_YEAR = 365;
        private static final int DEFAULT_OLD = 365;
        private static final int DEFAULT_LINK = 90;
        private static final int RULES = 10;
        private static final int MOST_MARKS = 120;

        private int known;
        private int from;
        private int rules;
        private int tells;
        private int kinLimit = DEFAULT_KIN;
        private int year = DEFAULT_YEAR;
        private int old = DEFAULT_OLD;
        private int link = DEFAULT_LINK;
        private int quorum;
        private final int[] withins = new int[MOST_TELLS];
        // The marks of a rule: those of the tells by their numbers, then of sit and may.
        private final int[] begins = new int[RULES];
        private final int[] ends = new int[RULES];
        private final int[] marks = new int[MOST_MARKS];
        private final int[] signs = new int[MOST_MARKS];
        private final int[] numbers = new int[MOST_MARKS];
        private int size;

        void clear(int fromDay, int knownDay) {
            from = fromDay;
            known = knownDay;
            rules = 0;
            tells = 0;
            kinLimit = DEFAULT_KIN;
            year = DEFAULT_YEAR;
            old = DEFAULT_OLD;
            link = DEFAULT_LINK;
            quorum = 0;
            size = 0;
            Arrays.fill(begins, 0);
            Arrays.fill(ends, 0);
        }

        boolean isInForce(int d, int t) {
            return known <= t && from <= d;
        }

        int since() {
            return from;
        }

        void countRule() {
            rules++;
        }

        int totalRules() {
            return rules;
        }

        int totalTells() {
            return tells;
        }

        int kinLimit() {
            return kinLimit;
        }

        int year() {
            return year;
        }

        int old() {
            return old;
        }

        int link() {
            return link;
        }

        int seatsNeeded() {
            return quorum;
        }

        void set(int word, int number) {
            switch (word) {
                case KIN:
                    kinLimit = number;
                    break;
                case YEAR:
                    year = number;
                    break;
                case OLD:
                    old = number;
                    break;
                case LINK:
                    link = number;
                    break;
                default:
                    quorum = number;
                    break;
            }
        }

        /** The number of the new tell. */
        int addTell(int within) {
            if (tells < 0 || tells >= MOST_TELLS) {
                return NONE;
            }
            withins[tells] = within;
            tells++;
            return tells - 1;
        }

        int within(int tell) {
            return tell >= 0 && tell < MOST_TELLS ? withins[tell] : DEFAULT_WITHIN;
        }

        void begin(int rule) {
            if (rule >= 0 && rule < RULES) {
                begins[rule] = size;
                ends[rule] = size;
            }
        }

        void finish(int rule) {
            if (rule >= 0 && rule < RULES) {
                ends[rule] = size;
            }
        }

        void put(int mark, int sign, int number) {
            if (size >= 0 && size < MOST_MARKS) {
                marks[size] = mark;
                signs[size] = sign;
                numbers[size] = number;
                size++;
            }
        }

        boolean uses(int mark) {
            for (int i = 0; i < size && i < MOST_MARKS; i++) {
                if (marks[i] == mark) {
                    return true;
                }
            }
            return false;
        }

        /** Twenty within one another leave no more than some forty answers open, fewer than a long has bits. */
        boolean holds(int rule, int[] values) {
            if (rule < 0 || rule >= RULES || values == null || begins[rule] >= ends[rule]) {
                return false;
            }
            long open = 0;
            for (int i = begins[rule]; i < ends[rule] && i >= 0 && i < MOST_MARKS; i++) {
                if (marks[i] == NOT) {
                    open ^= 1;
                } else if (marks[i] == AND) {
                    open = open >>> 2 << 1 | open & open >>> 1 & 1;
                } else if (marks[i] == OR) {
                    open = open >>> 2 << 1 | (open | open >>> 1) & 1;
                } else {
                    open = open << 1 | (isTrue(i, values) ? 1 : 0);
                }
            }
            return (open & 1) != 0;
        }

        private boolean isTrue(int i, int[] values) {
            if (i < 0 || i >= MOST_MARKS || marks[i] < 0 || marks[i] >= values.length) {
                return false;
            }
            int value = values[marks[i]];
            switch (signs[i]) {
                case '<':
                    return value < numbers[i];
                case '=':
                    return value == numbers[i];
                case '>':
                    return value > numbers[i];
                default:
                    return value != 0;
            }
        }
    }

    /** The laws told, and the reading of their texts: each token is taken in the light of what may come there. */
    private static final class LawBook {
        private static final int MOST_LAWS = 6;
        private static final int MOST_ONES = 60;
        private static final int DEEPEST = 20;
        private static final int REFUSED = -1000;

        private static final int NO_FAULT = 0;
        private static final int CANT_COME = 1;
        private static final int BAD_NUMBER = 2;
        private static final int TOLD_TWICE = 3;
        private static final int TOO_MANY = 4;

        // What may come next.
        private static final int AT_RULE = 0;
        private static final int AT_WITHIN_OR_IF = 1;
        private static final int AT_DAYS = 2;
        private static final int AT_IF = 3;
        private static final int AT_ONE = 4;
        private static final int AT_SIGN = 5;
        private static final int AT_COMPARED = 6;
        private static final int BEHIND_ONE = 7;
        private static final int AT_SETTING = 8;
        private static final int AT_RULE_END = 9;
        private static final int AT_REST = 10;

        // A bracket that waits for its other one, among the words that wait for what is behind them.
        private static final int BRACKET = '(';
        // Each of the 20 within and the outermost may keep an 'and' and an 'or' waiting.
        private static final int MOST_WAITING = 64;

        private final Law[] laws = new Law[MOST_LAWS];
        private final Law empty = new Law();
        private int size;
        private int fault;

        private final Tokens tokens = new Tokens();
        private Law draft = empty;
        private int state;
        // The words of the rules that were told, as bits.
        private int told;
        // The word and the sign whose number comes next.
        private int wordAtHand;
        private int signAtHand;
        private int within;
        private boolean isTelling;
        private int rule;
        private int ones;
        private int depth;
        private int brackets;
        private final int[] waiting = new int[MOST_WAITING];
        private int waits;

        LawBook() {
            for (int i = 0; i < MOST_LAWS; i++) {
                laws[i] = new Law();
            }
        }

        int total() {
            return size;
        }

        int lastFault() {
            return fault;
        }

        Law inForce(int d, int t) {
            Law latest = empty;
            int since = NONE;
            for (int i = 0; i < size && i < MOST_LAWS; i++) {
                Law law = laws[i];
                if (law != null && law.isInForce(d, t) && law.since() >= since) {
                    latest = law;
                    since = law.since();
                }
            }
            return latest;
        }

        int add(int from, int known, int[] text, int length) {
            if (size < 0 || size >= MOST_LAWS || laws[size] == null || !isDay(from)) {
                return REFUSED;
            }
            draft = laws[size];
            draft.clear(from, known);
            tokens.open(text, length);
            fault = NO_FAULT;
            state = AT_RULE;
            told = 0;
            ones = 0;
            // No token is empty, so that there are no more of them than bytes ahead of the edge, and the end.
            for (int i = 0; i <= Tokens.EDGE && fault == NO_FAULT && state != AT_REST; i++) {
                tokens.advance();
                fault = take(tokens.kind(), tokens.value());
            }
            if (fault != NO_FAULT) {
                return -1 - tokens.place();
            }
            size++;
            return draft.totalRules();
        }

        /** Takes the token: its fault. A word that no law knows has the value NONE. */
        private int take(int kind, int value) {
            int word = kind == Tokens.WORD ? value : NONE;
            switch (state) {
                case AT_RULE:
                    return kind == Tokens.END ? takeEnd() : takeRule(word);
                case AT_WITHIN_OR_IF:
                    if (word == WITHIN) {
                        state = AT_DAYS;
                        return NO_FAULT;
                    }
                    return takeIf(word);
                case AT_DAYS:
                    return takeDays(kind, value);
                case AT_IF:
                    return takeIf(word);
                case AT_ONE:
                    return takeOne(kind, word);
                case AT_SIGN:
                    signAtHand = kind;
                    state = AT_COMPARED;
                    return kind == '<' || kind == '=' || kind == '>' ? NO_FAULT : CANT_COME;
                case AT_COMPARED:
                    if (kind != Tokens.NUMBER) {
                        return CANT_COME;
                    }
                    return takeAtom(wordAtHand, signAtHand, value);
                case BEHIND_ONE:
                    return takeLink(kind, word);
                case AT_SETTING:
                    return takeSetting(kind, value);
                default:
                    return takeRuleEnd(kind);
            }
        }

        private int takeEnd() {
            state = AT_REST;
            return tokens.isCutOff() ? CANT_COME : NO_FAULT;
        }

        private int takeRule(int word) {
            boolean isTell = word == TELL;
            boolean isSeat = word == SIT || word == MAY;
            boolean isSetting = word == KIN || word >= YEAR && word <= QUORUM;
            if (!isTell && !isSeat && !isSetting) {
                return CANT_COME;
            }
            if (isTell ? draft.totalTells() >= Law.MOST_TELLS : (told >> word & 1) != 0) {
                return TOLD_TWICE;
            }
            told |= 1 << word;
            wordAtHand = word;
            within = Law.DEFAULT_WITHIN;
            isTelling = isTell;
            state = isTell ? AT_WITHIN_OR_IF : isSeat ? AT_IF : AT_SETTING;
            return NO_FAULT;
        }

        private int takeDays(int kind, int value) {
            if (kind != Tokens.NUMBER) {
                return CANT_COME;
            }
            within = value;
            state = AT_IF;
            return value >= 0 && value <= 999 ? NO_FAULT : BAD_NUMBER;
        }

        private int takeIf(int word) {
            if (word != IF) {
                return CANT_COME;
            }
            if (isTelling) {
                rule = draft.addTell(within);
            } else {
                rule = wordAtHand == SIT ? Law.SIT_RULE : Law.MAY_RULE;
            }
            draft.begin(rule);
            depth = 1;
            brackets = 0;
            waits = 0;
            state = AT_ONE;
            return NO_FAULT;
        }

        private int takeOne(int kind, int word) {
            boolean isNest = kind == BRACKET || word == NOT;
            if (!isNest && !isAtom(word)) {
                return CANT_COME;
            }
            if (ones >= MOST_ONES || depth > DEEPEST) {
                return TOO_MANY;
            }
            ones++;
            if (isNest) {
                await(kind == BRACKET ? BRACKET : NOT);
                brackets += kind == BRACKET ? 1 : 0;
                depth++;
                return NO_FAULT;
            }
            if (isCompared(word)) {
                wordAtHand = word;
                state = AT_SIGN;
                return NO_FAULT;
            }
            return takeAtom(word, 0, 0);
        }

        private boolean isAtom(int word) {
            return isTelling ? word >= 0 && word <= COUNT : word >= KIN && word <= KINPART;
        }

        private static boolean isCompared(int word) {
            return word == LEAST || word == MOST || word == SUM || word == COUNT || word == PART || word == KINPART;
        }

        private int takeAtom(int word, int sign, int number) {
            draft.put(word, sign, number);
            closeNots();
            return NO_FAULT;
        }

        private int takeLink(int kind, int word) {
            if (word == AND || word == OR) {
                closeLinks(word);
                await(word);
                state = AT_ONE;
                return NO_FAULT;
            }
            if (kind == ')' && brackets > 0) {
                closeLinks(OR);
                waits--;
                brackets--;
                depth--;
                closeNots();
                return NO_FAULT;
            }
            if (kind == ';' && brackets == 0) {
                closeLinks(OR);
                draft.finish(rule);
                return takeRuleEnd(kind);
            }
            return CANT_COME;
        }

        private void await(int word) {
            if (waits >= 0 && waits < MOST_WAITING) {
                waiting[waits] = word;
                waits++;
            }
        }

        private int lastWaiting() {
            return waits > 0 && waits <= MOST_WAITING ? waiting[waits - 1] : NONE;
        }

        /** Every 'not' that waited for the ONE that ends here has it now. */
        private void closeNots() {
            for (int i = 0; i < MOST_WAITING && lastWaiting() == NOT; i++) {
                draft.put(NOT, 0, 0);
                waits--;
                depth--;
            }
            state = BEHIND_ONE;
        }

        /** Puts the waiting links that bind as close as the word does, or closer, up to a bracket. */
        private void closeLinks(int word) {
            for (int i = 0; i < MOST_WAITING && (lastWaiting() == AND || lastWaiting() == word); i++) {
                draft.put(lastWaiting(), 0, 0);
                waits--;
            }
        }

        private int takeSetting(int kind, int value) {
            if (kind != Tokens.NUMBER) {
                return CANT_COME;
            }
            int least = wordAtHand == YEAR || wordAtHand == LINK ? 1 : 0;
            if (value < least || value > greatestFor(wordAtHand)) {
                return BAD_NUMBER;
            }
            draft.set(wordAtHand, value);
            state = AT_RULE_END;
            return NO_FAULT;
        }

        private static int greatestFor(int word) {
            switch (word) {
                case KIN:
                    return FAR - 1;
                case OLD:
                    return 3650;
                case QUORUM:
                    return 12;
                default:
                    return 999;
            }
        }

        private int takeRuleEnd(int kind) {
            if (kind != ';') {
                return CANT_COME;
            }
            draft.countRule();
            state = AT_RULE;
            return NO_FAULT;
        }
    }

    /** What the law in force says of gifts, matters and members. */
    private static final class Judge {
        private static final int NEED_NOT = 0;
        private static final int TOLD_IN_TIME = 1;
        private static final int TOLD_LATE = 2;
        private static final int NOT_TOLD_YET = 3;
        private static final int NOT_TOLD_LATE = 4;

        private final Parties parties;
        private final Owners owners;
        private final Chains chains;
        private final Spans posts;
        private final Gifts gifts;
        private final LawBook laws;
        // What each atom of a law tells, under the number of its word.
        private final int[] values = new int[KINPART + 1];
        private int rule;
        private int due;

        Judge(Parties parties, Owners owners, Chains chains, Spans posts, Gifts gifts, LawBook laws) {
            this.parties = parties;
            this.owners = owners;
            this.chains = chains;
            this.posts = posts;
            this.gifts = gifts;
            this.laws = laws;
        }

        /** Promise 20 for those answers that the law has a word in: 0, 1, 2, 7, 8. */
        int answerFor(int g, int t, int what) {
            decide(g, t);
            switch (what) {
                case 0:
                    return stateOf(g, t);
                case 1:
                    return rule;
                case 2:
                    return due;
                case 7:
                    return values[SUM];
                default:
                    return values[COUNT];
            }
        }

        /** Promise 31 for the answers 0 to 4. */
        int recordOf(int person, int t, int what) {
            int answer = 0;
            for (int g = 0; g < gifts.total(); g++) {
                if (!gifts.isKnown(g, t) || gifts.receiver(g) != person) {
                    continue;
                }
                boolean isTold = gifts.toldOn(g, t) != NONE;
                if (what == 0 || what == 1 && isTold) {
                    answer++;
                } else if (what == 4 && isTold) {
                    answer += gifts.leastOf(g, t);
                } else if (what == 2 || what == 3) {
                    decide(g, t);
                    answer += stateOf(g, t) == (what == 2 ? TOLD_LATE : NOT_TOLD_LATE) ? 1 : 0;
                }
            }
            return answer;
        }

        /** The state by the rule and the day when due that were decided last. */
        private int stateOf(int g, int t) {
            if (rule == NONE) {
                return NEED_NOT;
            }
            int told = gifts.toldOn(g, t);
            if (told != NONE) {
                return told <= due ? TOLD_IN_TIME : TOLD_LATE;
            }
            return t <= due ? NOT_TOLD_YET : NOT_TOLD_LATE;
        }

        /** Finds the first tell whose condition holds, and the day when the gift is due by it. */
        private void decide(int g, int t) {
            int day = gifts.dayOf(g);
            int receiver = gifts.receiver(g);
            int giver = gifts.giver(g);
            Law law = laws.inForce(day, t);
            Arrays.fill(values, 0);
            weigh(receiver, giver, day, t, law);
            int sort = gifts.sortOf(g);
            if (sort >= 0 && sort < FOREIGN) {
                values[sort] = 1;
            }
            values[FOREIGN] = gifts.isForeign(g) ? 1 : 0;
            boolean isKin = parties.isPerson(giver) && parties.degreeOf(receiver, giver, day, t) <= law.kinLimit();
            values[KIN] = isKin ? 1 : 0;
            values[LEAST] = gifts.leastOf(g, t);
            values[MOST] = gifts.mostOf(g, t);
            rule = NONE;
            due = NONE;
            for (int tell = 0; tell < law.totalTells() && rule == NONE; tell++) {
                int dayDue = day + law.within(tell);
                values[BACK] = gifts.isBackBy(g, dayDue, t) ? 1 : 0;
                if (law.holds(tell, values)) {
                    rule = tell;
                    due = dayDue;
                }
            }
        }

        /** Sum and count of what the group of a giver gave to a person and those near, up to the day. */
        private void weigh(int person, int giver, int d, int t, Law law) {
            int group = owners.headOf(giver, d, t);
            int sum = 0;
            int number = 0;
            for (int g = 0; g < gifts.total(); g++) {
                int day = gifts.dayOf(g);
                if (gifts.isKnown(g, t) && day <= d && day > d - law.year()
                        && parties.degreeOf(person, gifts.receiver(g), d, t) <= law.kinLimit()
                        && owners.headOf(gifts.giver(g), d, t) == group && !gifts.isBackBy(g, d, t)) {
                    sum += gifts.leastOf(g, t);
                    number++;
                }
            }
            values[SUM] = sum;
            values[COUNT] = number;
        }

        /** Whether a person must (2), may (1) or need not (0) sit out of a matter about f on day d. */
        int dutyFor(int person, int f, int d, int t) {
            Law law = laws.inForce(d, t);
            Arrays.fill(values, 0);
            weigh(person, f, d, t, law);
            int group = owners.headOf(f, d, t);
            values[KIN] = parties.isPerson(group) && parties.degreeOf(person, group, d, t) <= law.kinLimit() ? 1 : 0;
            values[POST] = hasPost(person, group, d, t, law.old()) ? 1 : 0;
            if (law.uses(PART)) {
                values[PART] = chains.cutPartOf(person, f, d, t);
            }
            if (law.uses(KINPART)) {
                values[KINPART] = greatestOfKin(person, f, d, t, law.kinLimit());
            }
            if (law.holds(Law.SIT_RULE, values)) {
                return 2;
            }
            return law.holds(Law.MAY_RULE, values) ? 1 : 0;
        }

        private boolean hasPost(int person, int group, int d, int t, int old) {
            for (int i = 0; i < posts.total(); i++) {
                if (posts.first(i) == person && posts.isKnown(i, t) && posts.start(i) <= d
                        && (posts.stop(i) == NONE || posts.stop(i) >= d - old)
                        && owners.headOf(posts.second(i), d, t) == group) {
                    return true;
                }
            }
            return false;
        }

        private int greatestOfKin(int person, int f, int d, int t, int limit) {
            int greatest = 0;
            for (int other = 0; other < parties.total(); other++) {
                if (other != person && parties.isPerson(other)
                        && parties.degreeOf(person, other, d, t) <= limit) {
                    greatest = Math.max(greatest, chains.cutPartOf(other, f, d, t));
                }
            }
            return greatest;
        }

        int seatsNeeded(int d, int t) {
            return laws.inForce(d, t).seatsNeeded();
        }

        /** Whether a gift from the group of f came to a person shortly ahead of the day, and was kept. */
        boolean isWarm(int person, int f, int d, int t) {
            int link = laws.inForce(d, t).link();
            int group = owners.headOf(f, d, t);
            for (int g = 0; g < gifts.total(); g++) {
                int day = gifts.dayOf(g);
                if (gifts.isKnown(g, t) && gifts.receiver(g) == person && day <= d && day > d - link
                        && owners.headOf(gifts.giver(g), d, t) == group && !gifts.isBackBy(g, d - 1, t)) {
                    return true;
                }
            }
            return false;
        }
    }

    /** The givers' own lists, and the most entries laid beside gifts that were told. */
    private static final class Lists {
        private static final int MOST_ENTRIES = 100;
        private static final int MOST_APART = 3;
        // The gifts that an entry fits, as bits in two longs.
        private static final int HALVES = 2;
        private static final int BITS = 64;

        private final Parties parties;
        private final Owners owners;
        private final Gifts gifts;
        private final int[] givers = new int[MOST_ENTRIES];
        private final long[] names = new long[MOST_ENTRIES];
        private final int[] days = new int[MOST_ENTRIES];
        private final int[] worths = new int[MOST_ENTRIES];
        private final int[] knowns = new int[MOST_ENTRIES];
        private int size;

        private final long[] fits = new long[MOST_ENTRIES * HALVES];
        private final long[] open = new long[HALVES];
        private final long[] unseen = new long[HALVES];
        private final int[] giftOf = new int[MOST_ENTRIES];
        private final int[] entryOf = new int[MOST_GIFTS];
        // The entry from which a gift was reached, while a way to one more is sought.
        private final int[] cameFrom = new int[MOST_GIFTS];
        private final int[] queue = new int[MOST_ENTRIES];
        private int waiting;

        Lists(Parties parties, Owners owners, Gifts gifts) {
            this.parties = parties;
            this.owners = owners;
            this.gifts = gifts;
        }

        int add(int giver, long name, int day, int worth, int known) {
            if (size < 0 || size >= MOST_ENTRIES) {
                return NONE;
            }
            givers[size] = giver;
            names[size] = name;
            days[size] = day;
            worths[size] = worth;
            knowns[size] = known;
            size++;
            return size - 1;
        }

        int total() {
            return size;
        }

        private boolean has(int e) {
            return e >= 0 && e < size && e < MOST_ENTRIES;
        }

        private static boolean isGift(int g) {
            return g >= 0 && g < MOST_GIFTS;
        }

        boolean isKnown(int e, int t) {
            return has(e) && knowns[e] <= t;
        }

        int bearersOf(int e) {
            return has(e) ? parties.peopleNamed(names[e]) : 0;
        }

        /** The gift by the joining made last, NONE for a gap. */
        int giftJoined(int e) {
            return has(e) ? giftOf[e] : NONE;
        }

        /** Joins the most entries, then settles one after the other on the least gift that keeps as many. */
        int join(int t) {
            Arrays.fill(fits, 0);
            Arrays.fill(giftOf, NONE);
            Arrays.fill(entryOf, NONE);
            Arrays.fill(open, -1);
            for (int e = 0; e < size; e++) {
                findFits(e, t);
            }
            int joins = 0;
            while (joins < MOST_ENTRIES && grow(0)) {
                joins++;
            }
            for (int e = 0; e < size; e++) {
                settle(e);
            }
            return joins;
        }

        private void findFits(int e, int t) {
            if (!isKnown(e, t)) {
                return;
            }
            int group = owners.headOf(givers[e], days[e], t);
            for (int g = 0; g < gifts.total() && g < MOST_GIFTS; g++) {
                int apart = gifts.dayOf(g) - days[e];
                if (gifts.isKnown(g, t) && gifts.toldOn(g, t) != NONE
                        && apart >= -MOST_APART && apart <= MOST_APART
                        && gifts.leastOf(g, t) <= worths[e] && worths[e] <= gifts.mostOf(g, t)
                        && parties.isNamed(gifts.receiver(g), names[e])
                        && owners.headOf(gifts.giver(g), days[e], t) == group) {
                    fits[e * HALVES + g / BITS] |= 1L << g % BITS;
                }
            }
        }

        /** Whether the entry fits the gift and the gift is among these. */
        private boolean isChoice(int e, int g, long[] among) {
            if (!has(e) || !isGift(g)) {
                return false;
            }
            int half = g / BITS;
            return (fits[e * HALVES + half] & among[half] & 1L << g % BITS) != 0;
        }

        /** Joins one entry more, none of those ahead of the first, by way of what is joined already. */
        private boolean grow(int first) {
            System.arraycopy(open, 0, unseen, 0, HALVES);
            waiting = 0;
            for (int e = first; e < size; e++) {
                if (giftJoined(e) == NONE) {
                    await(e);
                }
            }
            for (int taken = 0; taken < waiting && taken < MOST_ENTRIES; taken++) {
                int gift = reachFrom(queue[taken]);
                if (gift != NONE) {
                    shift(gift);
                    return true;
                }
            }
            return false;
        }

        private void await(int e) {
            if (waiting >= 0 && waiting < MOST_ENTRIES) {
                queue[waiting] = e;
                waiting++;
            }
        }

        /** A gift joined with none that this entry fits, or NONE; those who have its other gifts wait then. */
        private int reachFrom(int e) {
            for (int g = 0; g < MOST_GIFTS; g++) {
                if (isChoice(e, g, unseen)) {
                    unseen[g / BITS] &= ~(1L << g % BITS);
                    cameFrom[g] = e;
                    if (entryOf[g] == NONE) {
                        return g;
                    }
                    await(entryOf[g]);
                }
            }
            return NONE;
        }

        /** Goes back along the way found: each entry on it takes the gift that it reached. */
        private void shift(int gift) {
            int g = gift;
            for (int i = 0; i < MOST_ENTRIES && isGift(g); i++) {
                int e = cameFrom[g];
                int left = giftJoined(e);
                put(e, g);
                g = left;
            }
        }

        private void put(int e, int g) {
            if (has(e) && isGift(g)) {
                giftOf[e] = g;
                entryOf[g] = e;
            }
        }

        private void settle(int e) {
            for (int g = 0; g < MOST_GIFTS; g++) {
                if (isChoice(e, g, open)) {
                    // What one entry is settled on is no way for those behind it.
                    open[g / BITS] &= ~(1L << g % BITS);
                    if (giftJoined(e) == g || force(e, g)) {
                        return;
                    }
                    open[g / BITS] |= 1L << g % BITS;
                }
            }
        }

        /** Gives the gift to the entry if as many stay joined; otherwise all is as it was. */
        private boolean force(int e, int g) {
            if (!isGift(g)) {
                return false;
            }
            int left = giftJoined(e);
            int holder = entryOf[g];
            put(e, g);
            if (isGift(left)) {
                entryOf[left] = NONE;
            }
            if (!has(holder)) {
                return true;
            }
            giftOf[holder] = NONE;
            if (!isGift(left) || grow(e + 1)) {
                return true;
            }
            put(holder, g);
            put(e, left);
            return false;
        }
    }

    /** The council, what it decides on and how it voted. */
    private static final class Council {
        static final int MOST_DRAWN = 60;
        private static final int MOST_MEMBERS = 12;
        private static final int MOST_MATTERS = 60;
        private static final int MOST_VOTES = 200;
        private static final int MUST = 2;

        private final Judge judge;
        private final int[] members = new int[MOST_MEMBERS];
        private int memberTotal;
        private final int[] subjects = new int[MOST_MATTERS];
        private final int[] days = new int[MOST_MATTERS];
        private int matterTotal;
        private final int[] voteMatters = new int[MOST_VOTES];
        private final int[] voters = new int[MOST_VOTES];
        private final boolean[] votesFor = new boolean[MOST_VOTES];
        private final int[] knowns = new int[MOST_VOTES];
        private int voteTotal;

        Council(Judge judge) {
            this.judge = judge;
        }

        int totalMembers() {
            return memberTotal;
        }

        int totalMatters() {
            return matterTotal;
        }

        int totalVotes() {
            return voteTotal;
        }

        private boolean isMember(int person) {
            for (int i = 0; i < memberTotal && i < MOST_MEMBERS; i++) {
                if (members[i] == person) {
                    return true;
                }
            }
            return false;
        }

        int addMember(int person) {
            if (isMember(person) || memberTotal < 0 || memberTotal >= MOST_MEMBERS) {
                return NONE;
            }
            members[memberTotal] = person;
            memberTotal++;
            return memberTotal;
        }

        int addMatter(int f, int day) {
            if (matterTotal < 0 || matterTotal >= MOST_MATTERS) {
                return NONE;
            }
            subjects[matterTotal] = f;
            days[matterTotal] = day;
            matterTotal++;
            return matterTotal - 1;
        }

        boolean hasMatter(int m) {
            return m >= 0 && m < matterTotal && m < MOST_MATTERS;
        }

        int dutyOf(int m, int person, int t) {
            return hasMatter(m) ? judge.dutyFor(person, subjects[m], days[m], t) : NONE;
        }

        int quorumOf(int m, int t) {
            if (!hasMatter(m)) {
                return 0;
            }
            int left = -judge.seatsNeeded(days[m], t);
            for (int i = 0; i < memberTotal && i < MOST_MEMBERS; i++) {
                if (judge.dutyFor(members[i], subjects[m], days[m], t) != MUST) {
                    left++;
                }
            }
            return left;
        }

        int addVote(int m, int person, boolean isFor, int known) {
            if (!hasMatter(m) || !isMember(person) || voteTotal < 0 || voteTotal >= MOST_VOTES) {
                return NONE;
            }
            for (int i = 0; i < voteTotal; i++) {
                if (voteMatters[i] == m && voters[i] == person) {
                    return NONE;
                }
            }
            voteMatters[voteTotal] = m;
            voters[voteTotal] = person;
            votesFor[voteTotal] = isFor;
            knowns[voteTotal] = known;
            voteTotal++;
            return voteTotal - 1;
        }

        /** How many votes are known then: 0 all, 1 those for, 2 warm ones, 3 those both warm and for. */
        int tallyOf(int t, int what) {
            int tally = 0;
            for (int i = 0; i < voteTotal && i < MOST_VOTES; i++) {
                int m = voteMatters[i];
                boolean isFor = what == 0 || what == 2 || votesFor[i];
                if (knowns[i] <= t && isFor && hasMatter(m)
                        && (what < 2 || judge.isWarm(voters[i], subjects[m], days[m], t))) {
                    tally++;
                }
            }
            return tally;
        }

        /** Of all ways to draw those for, the ways in which as many or more of the warm ones are drawn. */
        long chanceOf(int t, int what) {
            int votes = tallyOf(t, 0);
            int drawn = tallyOf(t, 1);
            int warm = tallyOf(t, 2);
            long ways = 0;
            for (int i = tallyOf(t, 3); i <= warm && i <= drawn; i++) {
                ways += waysToTake(i, warm) * waysToTake(drawn - i, votes - warm);
            }
            long all = waysToTake(drawn, votes);
            long common = commonDivisor(ways, all);
            if (common == 0) {
                return what;
            }
            return (what == 0 ? ways : all) / common;
        }

        /** Each step divides exactly, and up to 60 nothing on the way leaves a long. */
        private static long waysToTake(int taken, int of) {
            if (taken < 0 || taken > of || of > MOST_DRAWN) {
                return 0;
            }
            long ways = 1;
            for (int i = 1; i <= taken; i++) {
                ways = ways * (of - taken + i) / i;
            }
            return ways;
        }

        private static long commonDivisor(long a, long b) {
            long greater = a;
            long lesser = b;
            for (int i = 0; i < 200 && lesser != 0; i++) {
                long rest = greater % lesser;
                greater = lesser;
                lesser = rest;
            }
            return greater;
        }
    }
}
