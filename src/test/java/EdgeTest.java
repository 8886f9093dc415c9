import java.util.NoSuchElementException;

/**
 * Each sentence of the document that names a boundary (too small, too large, empty, full, a refused call) has a test of
 * its own here, in the document's order; the answers due are worked out by hand from its words. No object is used for
 * more than 512 calls. Exit code 1 if an answer is another one.
 */
public final class EdgeTest {
    private static final int MIN = Integer.MIN_VALUE;
    private static final int MAX = Integer.MAX_VALUE;
    private static final long THROWN = Long.MIN_VALUE;
    /** A ten thousandth of a firm or trust, as part() tells it. */
    private static final long ONE = 1000000000000L;
    private static final int[] NO_DAYS = {MIN, -2, -1, 10000, 10001, MAX};
    private static final int[] NO_WORTHS = {MIN, -1, 1000001, MAX};
    private static int wrong;
    private static int checks;
    private static int sentences;
    private static String words = "";

    private interface Call {
        long answer();
    }

    private interface Told {
        void on(GiftRegister r);
    }

    private interface Answer {
        long as(GiftRegister r, int t);
    }

    private interface Spanned {
        void on(GiftRegister r, int from, int until);
    }

    public static void main(String[] args) {
        twoTimes();
        days();
        onTheDayAsOf();
        onTheDayInGroups();
        partiesThere();
        names();
        numbering();
        owning();
        ownedTogether();
        kin();
        posts();
        gifts();
        worths();
        backAndTold();
        chainEdges();
        controlEdges();
        headEdges();
        degreeEdges();
        lawsInForce();
        tokens();
        ruleNumbers();
        ruleNumbersAtWork();
        daysBackAtWork();
        rulesOnce();
        conditions();
        oneLimits();
        faultPlaces();
        faultAtTheEdge();
        faultLeavesNothing();
        judgedAtoms();
        judgedBack();
        sumAndCount();
        mustBeTold();
        matterKinAndPost();
        matterParts();
        matterSums();
        sitOrMay();
        council();
        fitting();
        joiningTheMost();
        joiningByRising();
        doubt();
        votesOnce();
        warmEdges();
        chanceEdges();
        chanceLimits();
        newObject();
        feedEndNext();
        refusalsInOrder();
        refusals();
        outStays();
        askedEdges();
        throwsChangeNothing();
        System.out.println(wrong == 0 ? "edges: all " + checks + " answers to " + sentences + " sentences are as due"
            : "edges: " + wrong + " answers are not as due");
        if (wrong != 0) {
            System.exit(1);
        }
    }

    // ---------------------------------------------------------------- how answers are looked at

    private static void sentence(String text) {
        words = text;
        sentences++;
    }

    private static void is(String what, long got, long due) {
        checks++;
        if (got != due) {
            wrong++;
            System.out.println("\"" + words + "\": " + what + " answered " + shown(got) + ", due is " + shown(due));
        }
    }

    private static String shown(long answer) {
        return answer == THROWN ? "NoSuchElementException" : String.valueOf(answer);
    }

    private static void yes(String what, boolean got) {
        is(what, got ? 1 : 0, 1);
    }

    private static void no(String what, boolean got) {
        is(what, got ? 1 : 0, 0);
    }

    /** What the call answers, THROWN if it throws the exception that the document names; another one goes on. */
    private static long guarded(Call call) {
        try {
            return call.answer();
        } catch (NoSuchElementException e) {
            return THROWN;
        }
    }

    /** All that can be counted and OUT; the tape and the latest fault, too, unless a text is taken. */
    private static String state(GiftRegister r, boolean isText) {
        StringBuilder text = new StringBuilder();
        for (int what = 0; what <= 12; what++) {
            text.append(isText && what == 11 ? 0 : r.count(what)).append(' ');
        }
        text.append(isText ? 0 : r.fault());
        for (int k = 0; k < r.count(12); k++) {
            text.append(' ').append(r.octet(k));
        }
        return text.toString();
    }

    /** The call answers so, and nothing that can be counted is another one behind it. */
    private static void refused(GiftRegister r, String what, long due, Call call) {
        String ahead = state(r, false);
        is(what, guarded(call), due);
        yes(what + ": nothing changes", state(r, false).equals(ahead));
    }

    /** Likewise for a call that takes the tape, which is empty then. */
    private static void refusedText(GiftRegister r, String what, String text, long due, Call call) {
        String ahead = state(r, true);
        put(r, text);
        is(what, guarded(call), due);
        yes(what + ": nothing changes", state(r, true).equals(ahead));
        is(what + ": the tape is empty", r.count(11), 0);
    }

    // ---------------------------------------------------------------- how objects are made

    private static GiftRegister put(GiftRegister r, String text) {
        r.end(0);
        for (int i = 0; i < text.length(); i += 20) {
            int[] n = new int[5];
            for (int k = 0; k < 20 && i + k < text.length(); k++) {
                n[k / 4] |= text.charAt(i + k) << 24 - k % 4 * 8;
            }
            r.feed(n[0], n[1], n[2], n[3], n[4]);
        }
        r.end(text.length());
        return r;
    }

    private static int party(GiftRegister r, String name, int sort) {
        return put(r, name).party(sort);
    }

    private static int law(GiftRegister r, int from, String text) {
        return put(r, text).law(from);
    }

    private static int entry(GiftRegister r, String name, int giver, int day, int worth) {
        return put(r, name).entry(giver, day, worth);
    }

    /** Parties 0, 1 .. of the sorts told by p, f, t; their names are naa, nab .. */
    private static GiftRegister made(String sorts) {
        GiftRegister r = new GiftRegister();
        for (int i = 0; i < sorts.length(); i++) {
            party(r, name(i), "pft".indexOf(sorts.charAt(i)));
        }
        return r;
    }

    private static String name(int i) {
        return "n" + (char) ('a' + i / 26) + (char) ('a' + i % 26);
    }

    private static void outIs(GiftRegister r, int... due) {
        is("bytes of OUT", r.count(12), due.length);
        for (int k = 0; k < due.length; k++) {
            int at = k;
            is("byte " + k + " of OUT", guarded(() -> r.octet(at)), due[k]);
        }
    }

    // ---------------------------------------------------------------- the document: two times

    private static void twoTimes() {
        sentence("TODAY is 0 at first, 9999 the last one");
        GiftRegister r = new GiftRegister();
        is("at first", r.count(0), 0);
        is("up to the day ahead of the last", r.next(9998), 9998);
        is("the last", r.next(1), 9999);
        refused(r, "behind the last", -1, () -> r.next(1));
        is("still the last", r.next(0), 9999);

        sentence("FACTS are KNOWN from the day on which they are told; AS OF a day t count those KNOWN on t or ahead; t below 0: none");
        knownFrom("OWNS, part", x -> x.owns(0, 2, 6000, 0, -1), (x, t) -> x.part(0, 2, 0, t), 0, 0, 6000 * ONE);
        knownFrom("OWNS, chain", x -> x.owns(0, 2, 6000, 0, -1), (x, t) -> x.chain(0, 2, 0, t), 0, 0, 2);
        knownFrom("OWNS, head", x -> x.owns(0, 2, 6000, 0, -1), (x, t) -> x.head(2, 0, t), 2, 2, 0);
        knownFrom("OWNS, sits", x -> x.owns(0, 2, 6000, 0, -1), (x, t) -> x.sits(0, 0, t), 0, 1, 2);
        knownFrom("OWNS, a GROUP", x -> x.owns(2, 3, 6000, 0, -1), (x, t) -> x.sits(0, 1, t), 0, 0, 1);
        knownFrom("KIN", x -> x.kin(0, 1, 0, -1), (x, t) -> x.degree(0, 1, 0, t), 5, 5, 1);
        knownFrom("KIN, sits", x -> x.kin(0, 1, 0, -1), (x, t) -> x.sits(0, 1, t), 0, 0, 1);
        knownFrom("POST", x -> x.post(1, 2, 0, 0), (x, t) -> x.sits(0, 1, t), 0, 0, 2);
        knownFrom("POST, quorum", x -> x.post(1, 2, 0, 0), (x, t) -> x.quorum(0, t), 2, 2, 1);
        knownFrom("GIFT", x -> x.gift(2, 1, 0, 0, false, 7, 8), (x, t) -> x.judged(2, t, 3), THROWN, THROWN, 7);
        knownFrom("GIFT, asked", x -> x.gift(2, 1, 0, 0, false, 7, 8), (x, t) -> x.asked(1, t, 0), 0, 1, 2);
        knownFrom("GIFT, count", x -> x.gift(2, 0, 0, 0, false, 7, 8), (x, t) -> x.judged(0, t, 8), THROWN, 1, 2);
        knownFrom("GIFT, sits", x -> x.gift(2, 1, 0, 0, false, 7, 8), (x, t) -> x.sits(0, 1, t), 0, 0, 1);
        knownFrom("WORTH", x -> x.worth(0, 11, 21), (x, t) -> x.judged(0, t, 3), THROWN, 10, 11);
        knownFrom("WORTH, most", x -> x.worth(0, 11, 21), (x, t) -> x.judged(0, t, 4), THROWN, 20, 21);
        knownFrom("WORTH, sum", x -> x.worth(0, 11, 21), (x, t) -> x.judged(0, t, 7), THROWN, 10, 11);
        knownFrom("BACK", x -> x.back(0, 9), (x, t) -> x.judged(0, t, 5), THROWN, -1, 9);
        knownFrom("BACK, count", x -> x.back(0, 0), (x, t) -> x.sits(0, 0, t), 0, 1, 0);
        knownFrom("TOLD", x -> x.tell(0), (x, t) -> x.asked(0, t, 1), 0, 0, 1);
        knownFrom("TOLD, sum", x -> x.tell(0), (x, t) -> x.asked(0, t, 4), 0, 0, 10);
        knownFrom("LAW", x -> law(x, 0, "tell if gift;"), (x, t) -> x.judged(0, t, 1), THROWN, -1, 0);
        knownFrom("LAW, quorum", x -> law(x, 0, "quorum 7;"), (x, t) -> x.quorum(0, t), 2, 2, -5);
        knownFrom("ENTRY", x -> entry(x, "naa", 2, 0, 10), (x, t) -> x.entered(0, t, 2), THROWN, THROWN, 1);
        knownFrom("ENTRY, a gap", x -> entry(x, "naa", 2, 0, 10), (x, t) -> x.entered(0, t, 0), THROWN, THROWN, -1);
        knownFrom("TOLD and ENTRY", x -> entry(x, x.tell(0) ? "naa" : "", 2, 0, 10), (x, t) -> x.joined(t), 0, 0, 1);
        knownFrom("VOTE", x -> x.vote(0, 0, true), (x, t) -> x.links(t, 0), 0, 0, 1);
        knownFrom("VOTE, a link", x -> x.vote(0, 0, true), (x, t) -> x.links(t, 3), 0, 0, 1);
    }

    /** Asked ahead of the day on which it is told, on it, behind it, and as of days below 0. */
    private static void knownFrom(String what, Told told, Answer answer, long below, long ahead, long then) {
        for (int day : new int[] {0, 1, 5, 9999}) {
            GiftRegister r = made("ppff");
            law(r, 0, "sit if post or part>5000;may if count>0;");
            r.gift(2, 0, 0, 0, false, 10, 20);
            r.gift(3, 1, 0, 0, false, 10, 20);
            r.member(0);
            r.member(1);
            r.matter(2, 0);
            r.next(day);
            told.on(r);
            String where = what + ", told on day " + day + ", as of ";
            is(where + "it", guarded(() -> answer.as(r, day)), then);
            is(where + "the day behind", guarded(() -> answer.as(r, day + 1)), then);
            is(where + "the greatest", guarded(() -> answer.as(r, MAX)), then);
            is(where + "-1", guarded(() -> answer.as(r, -1)), below);
            is(where + "the least", guarded(() -> answer.as(r, MIN)), below);
            if (day > 0) {
                is(where + "the day ahead", guarded(() -> answer.as(r, day - 1)), ahead);
                is(where + "day 0", guarded(() -> answer.as(r, 0)), ahead);
            }
            is(where + "it, again", guarded(() -> answer.as(r, day)), then);
        }
    }

    private static void days() {
        sentence("The days on which something was are 0 to 9999, whenever it is told");
        for (int today : new int[] {0, 4000, 9999}) {
            for (int day : new int[] {0, 9999}) {
                onTheDay(today, day);
            }
            for (int day : NO_DAYS) {
                onNoDay(today, day);
            }
        }
    }

    private static void onTheDay(int today, int day) {
        GiftRegister r = made("ppff");
        r.next(today);
        String on = " on day " + day + ", told on " + today;
        is("owns" + on, r.owns(0, 2, 1, day, -1), 0);
        is("kin" + on, r.kin(0, 1, day, -1), 0);
        is("post" + on, r.post(0, 2, day, day), 0);
        is("gift" + on, r.gift(2, 0, 0, day, false, 1, 1), 0);
        yes("back" + on, r.back(0, day));
        is("law" + on, law(r, day, "tell if gift;"), 1);
        is("matter" + on, r.matter(2, day), 0);
        is("entry" + on, entry(r, "x", 2, day, 0), 0);
        is("part" + on, r.part(0, 2, day, today), ONE);
        is("chain" + on, r.chain(0, 2, day, today), 2);
        is("head" + on, r.head(2, day, today), 2);
        is("degree" + on, r.degree(0, 1, day, today), 1);
        is("judged" + on, r.judged(0, today, 2), day + 30);
    }

    private static void onNoDay(int today, int day) {
        GiftRegister r = made("ppff");
        r.gift(2, 0, 0, 0, false, 1, 1);
        r.next(today);
        String on = " on day " + day + ", told on " + today;
        refused(r, "owns" + on, -3, () -> r.owns(0, 2, 1, day, -1));
        refused(r, "kin" + on, -3, () -> r.kin(0, 1, day, -1));
        refused(r, "post" + on, -3, () -> r.post(0, 2, day, -1));
        refused(r, "gift" + on, -3, () -> r.gift(2, 0, 0, day, false, 1, 1));
        refused(r, "matter" + on, -1, () -> r.matter(2, day));
        refusedText(r, "law" + on, "tell if gift;", -1000, () -> r.law(day));
        refusedText(r, "entry" + on, "naa", -1, () -> r.entry(2, day, 0));
        no("back" + on, r.back(0, day));
        is("back" + on + ": it was not", r.judged(0, today, 5), -1);
        is("part" + on, r.part(0, 2, day, today), -1);
        is("chain" + on, r.chain(0, 2, day, today), -1);
        is("head" + on, r.head(2, day, today), -1);
        is("degree" + on, r.degree(0, 1, day, today), -1);
    }

    /** What is asked of day 100 hangs on a fact of that day alone, and on that it is KNOWN; 0, 1 are people, 2, 3 firms. */
    private static void hangs(String what, Told base, Spanned fact, Answer answer, long without, long with) {
        GiftRegister none = made("ppff");
        base.on(none);
        is(what + " without it", answer.as(none, 9), without);
        GiftRegister r = made("ppff");
        base.on(r);
        r.next(5);
        fact.on(r, 100, 101);
        is(what + " on the day", answer.as(r, 5), with);
        is(what + " ahead of when it was told", answer.as(r, 4), without);
        is(what + " far behind", answer.as(r, 9999), with);
        GiftRegister other = made("ppff");
        base.on(other);
        fact.on(other, 99, 100);
        is(what + " the day ahead", answer.as(other, 5), without);
        fact.on(other, 101, 102);
        is(what + " the day behind", answer.as(other, 5), without);
        fact.on(other, 100, 101);
        is(what + " then on the day", answer.as(other, 5), with);
    }

    private static void onTheDayAsOf() {
        sentence("OWNERS, on a day d; AS OF a day t");
        hangs("part", x -> { }, (x, a, b) -> x.owns(0, 2, 7, a, b), (x, t) -> x.part(0, 2, 100, t), 0, 7 * ONE);
        hangs("chain", x -> { }, (x, a, b) -> x.owns(0, 2, 7, a, b), (x, t) -> x.chain(0, 2, 100, t), 0, 2);
        hangs("chain of two", x -> x.owns(2, 3, 9, 0, -1), (x, a, b) -> x.owns(0, 2, 7, a, b), (x, t) -> x.chain(0, 3, 100, t), 0, 3);
        hangs("part by two", x -> x.owns(0, 2, 10000, 0, -1), (x, a, b) -> x.owns(2, 3, 7, a, b), (x, t) -> x.part(0, 3, 100, t), 0, 7 * ONE);
        hangs("head", x -> { }, (x, a, b) -> x.owns(0, 2, 5001, a, b), (x, t) -> x.head(2, 100, t), 2, 0);
        hangs("head by two", x -> x.owns(2, 3, 5001, 0, -1), (x, a, b) -> x.owns(0, 2, 5001, a, b), (x, t) -> x.head(3, 100, t), 2, 0);
        sentence("DEGREE: KIN on day d; AS OF a day t");
        hangs("degree", x -> { }, (x, a, b) -> x.kin(0, 1, a, b), (x, t) -> x.degree(0, 1, 100, t), 5, 1);
        hangs("a gift's kin", x -> given(x, "tell if kin;", 1, 0), (x, a, b) -> x.kin(0, 1, a, b), (x, t) -> x.judged(0, t, 1), -1, 0);
        hangs("a gift's count", x -> given(x, "", 2, 0, 2, 1), (x, a, b) -> x.kin(1, 0, a, b), (x, t) -> x.judged(0, t, 8), 1, 2);
        hangs("a matter's kin", x -> about(x, "sit if kin;", 1), (x, a, b) -> x.kin(0, 1, a, b), (x, t) -> x.sits(0, 0, t), 0, 2);
        hangs("a matter's kinpart", x -> about(x, "sit if kinpart>0;", 2, x.owns(1, 2, 1, 0, -1)),
            (x, a, b) -> x.kin(0, 1, a, b), (x, t) -> x.sits(0, 0, t), 0, 2);
        hangs("a matter's count", x -> about(x, "sit if count>0;", 2, x.gift(2, 1, 0, 100, false, 1, 1)),
            (x, a, b) -> x.kin(0, 1, a, b), (x, t) -> x.sits(0, 0, t), 0, 2);
        sentence("a MATTER, by OWNS on its day; AS OF a day t");
        hangs("part", x -> about(x, "sit if part>0;", 2), (x, a, b) -> x.owns(0, 2, 1, a, b), (x, t) -> x.sits(0, 0, t), 0, 2);
        hangs("kinpart", x -> about(x, "sit if kinpart>0;", 2, x.kin(0, 1, 0, -1)),
            (x, a, b) -> x.owns(1, 2, 1, a, b), (x, t) -> x.sits(0, 0, t), 0, 2);
        hangs("its head", x -> about(x, "sit if kin;", 2), (x, a, b) -> x.owns(0, 2, 5001, a, b), (x, t) -> x.sits(0, 0, t), 0, 2);
        sentence("a POST, a LAW, for the day; AS OF a day t");
        hangs("a post", x -> about(x, "sit if post;old 0;", 2), (x, a, b) -> x.post(0, 2, a, b - 1), (x, t) -> x.sits(0, 0, t), 0, 2);
        hangs("a gift of the day", x -> about(x, "year 1;sit if count>0;", 2), (x, a, b) -> x.gift(2, 0, 0, a, false, 1, 1),
            (x, t) -> x.sits(0, 0, t), 0, 2);
    }

    /** A law, and gifts of day 100 by the first of each pair to the second. */
    private static void given(GiftRegister r, String text, int... pairs) {
        law(r, 0, text);
        for (int i = 0; i + 1 < pairs.length; i += 2) {
            r.gift(pairs[i], pairs[i + 1], 0, 100, false, 1, 1);
        }
    }

    /** A law, a matter of day 100 and a vote of person 0 in it; what else was told comes as an argument. */
    private static void about(GiftRegister r, String text, int f, int... also) {
        law(r, 0, text);
        r.matter(f, 100);
        r.member(0);
        r.vote(0, 0, true);
    }

    /** A gift of day 102 that was told, and an entry of day 100. */
    private static void listed(GiftRegister r, int giver, int byEntry) {
        r.gift(giver, 0, 0, 102, false, 1, 1);
        r.tell(0);
        entry(r, "naa", byEntry, 100, 1);
    }

    private static void onTheDayInGroups() {
        sentence("GROUPS on the day; AS OF a day t");
        Spanned owns = (x, a, b) -> x.owns(2, 3, 5001, a, b);
        hangs("a gift's count, its giver", x -> given(x, "", 3, 0, 2, 0), owns, (x, t) -> x.judged(0, t, 8), 1, 2);
        hangs("a gift's count, another giver", x -> given(x, "", 2, 0, 3, 0), owns, (x, t) -> x.judged(0, t, 8), 1, 2);
        hangs("a matter's count, its party", x -> about(x, "sit if count>0;", 3, x.gift(2, 0, 0, 100, false, 1, 1)),
            owns, (x, t) -> x.sits(0, 0, t), 0, 2);
        hangs("a matter's count, the giver", x -> about(x, "sit if count>0;", 2, x.gift(3, 0, 0, 100, false, 1, 1)),
            owns, (x, t) -> x.sits(0, 0, t), 0, 2);
        hangs("a post, the matter's party", x -> about(x, "sit if post;", 3, x.post(0, 2, 0, 100)), owns, (x, t) -> x.sits(0, 0, t), 0, 2);
        hangs("a post, its place", x -> about(x, "sit if post;", 2, x.post(0, 3, 0, 100)), owns, (x, t) -> x.sits(0, 0, t), 0, 2);
        hangs("a post that ended ahead, its place", x -> about(x, "sit if post;", 2, x.post(0, 3, 0, 90)), owns, (x, t) -> x.sits(0, 0, t), 0, 2);
        hangs("warm, the matter's party", x -> about(x, "", 3, x.gift(2, 0, 0, 100, false, 1, 1)), owns, (x, t) -> x.links(t, 2), 0, 1);
        hangs("warm, the giver", x -> about(x, "", 2, x.gift(3, 0, 0, 100, false, 1, 1)), owns, (x, t) -> x.links(t, 2), 0, 1);
        hangs("warm, a gift of another day", x -> about(x, "", 2, x.gift(3, 0, 0, 90, false, 1, 1)), owns, (x, t) -> x.links(t, 3), 0, 1);
        hangs("joined, the gift's giver", x -> listed(x, 3, 2), owns, (x, t) -> x.joined(t), 0, 1);
        hangs("joined, the entry's giver", x -> listed(x, 2, 3), owns, (x, t) -> x.joined(t), 0, 1);
        hangs("quorum", x -> about(x, "sit if count>0;", 3, x.gift(2, 0, 0, 100, false, 1, 1)), owns, (x, t) -> x.quorum(0, t), 1, 0);
    }

    // ---------------------------------------------------------------- the document: parties and facts

    private static void partiesThere() {
        sentence("PARTIES 0 .. 59");
        GiftRegister r = new GiftRegister();
        for (int i = 0; i < 60; i++) {
            is("party " + i, party(r, name(i), i % 3), i);
        }
        refusedText(r, "the 61st", "x", -1, () -> r.party(0));
        is("the last one is there", r.head(59, 0, 0), 59);
        is("one behind it is not", r.head(60, 0, 0), -1);
        is("the last one owns", r.owns(59, 58, 6000, 0, -1), 0);
        is("the last one is a head", r.head(58, 0, 0), 59);
        is("a chain from the last one", r.chain(59, 58, 0, 0), 2);
        outIs(r, 59, 58);

        GiftRegister first = new GiftRegister();
        party(first, "f", 1);
        party(first, "p", 0);
        party(first, "q", 0);
        is("party 0, a firm, is owned", first.owns(1, 0, 6000, 0, -1), 0);
        is("a part in it", first.part(1, 0, 0, 0), 6000 * ONE);
        is("a chain to it", first.chain(1, 0, 0, 0), 2);
        outIs(first, 1, 0);
        is("its head", first.head(0, 0, 0), 1);
        is("the greatest part, in it", first.asked(1, 0, 5), 6000);
        first.kin(1, 2, 0, -1);
        first.matter(0, 0);
        law(first, 0, "sit if part=6000;may if kinpart=6000;");
        is("one who has a part in it", first.sits(0, 1, 0), 2);
        is("kin", first.sits(0, 2, 0), 1);

        sentence("(there once for all)");
        GiftRegister s = made("pf");
        entry(s, "naa", 1, 0, 0);
        is("one of the name", s.entered(0, 0, 2), 1);
        s.next(7);
        is("told on day 7", party(s, "naa", 0), 2);
        is("two of the name, as of day 0, too", s.entered(0, 0, 2), 2);
        is("its head as of day 0", s.head(2, 0, 0), 2);
        is("its head as of -1", s.head(2, 0, -1), 2);
        is("its degree to itself as of -1", s.degree(2, 2, 0, -1), 0);
        is("its degree to another one", s.degree(0, 2, 0, 0), 5);
        is("its part", s.part(2, 1, 0, 0), 0);
        is("what it was given", s.asked(2, 0, 0), 0);

        sentence("SORT 0 person, 1 firm, 2 trust");
        GiftRegister t = new GiftRegister();
        for (int sort : new int[] {MIN, -1, 3, 4, MAX}) {
            refusedText(t, "sort " + sort, "x", -1, () -> t.party(sort));
        }
        for (int sort = 0; sort <= 2; sort++) {
            is("sort " + sort, party(t, "x", sort), sort);
        }
        is("a person can be a member", t.member(0), 1);
        is("a firm can't", t.member(1), -1);
        is("a trust can't", t.member(2), -1);
        is("a firm can be owned", t.owns(0, 1, 1, 0, -1), 0);
        is("a trust can be owned", t.owns(0, 2, 1, 0, -1), 1);
        is("a person can't", t.owns(1, 0, 1, 0, -1), -2);
    }

    private static void names() {
        sentence("a NAME of 1 to 12 small letters");
        for (int b = 0; b < 256; b++) {
            boolean isLetter = b >= 'a' && b <= 'z';
            String sign = String.valueOf((char) b);
            GiftRegister r = new GiftRegister();
            is("the byte " + b, party(r, sign, 0), isLetter ? 0 : -1);
            is("the byte " + b + " first of twelve", party(r, sign + "abcdefghijk", 1), isLetter ? 1 : -1);
            is("the byte " + b + " last of twelve", party(r, "abcdefghijk" + sign, 2), isLetter ? 2 : -1);
            is("the byte " + b + " in an entry", entry(made("p"), "ab" + sign, 0, 0, 0), isLetter ? 0 : -1);
        }
        GiftRegister r = new GiftRegister();
        refusedText(r, "no letter", "", -1, () -> r.party(0));
        is("one letter", party(r, "a", 0), 0);
        is("twelve letters", party(r, "abcdefghijkl", 0), 1);
        refusedText(r, "thirteen letters", "abcdefghijklm", -1, () -> r.party(0));
        refusedText(r, "twenty letters", "abcdefghijklmnopqrst", -1, () -> r.party(0));
        refusedText(r, "540 letters", "a".repeat(540), -1, () -> r.party(0));
        refusedText(r, "an entry of no letter", "", -1, () -> r.entry(0, 0, 0));
        refusedText(r, "an entry of thirteen", "abcdefghijklm", -1, () -> r.entry(0, 0, 0));

        sentence("several may have one NAME");
        GiftRegister s = new GiftRegister();
        String[] all = {"a", "b", "q", "aa", "aq", "ab", "ba", "aaaaaaaaaaaa", "baaaaaaaaaaa", "aaaaaaaaaaab",
            "zzzzzzzzzzzz", "zzzzzzzzzzzy", "z", "zz"};
        for (int i = 0; i < all.length; i++) {
            for (int many = 0; many <= i % 3; many++) {
                party(s, all[i], 0);
            }
        }
        for (int i = 0; i < all.length; i++) {
            is("entry of " + all[i], entry(s, all[i], 0, 0, 0), i);
            is("people named " + all[i], s.entered(i, 0, 2), i % 3 + 1);
        }
    }

    private static void numbering() {
        sentence("FACTS are numbered by sorts as they come");
        GiftRegister r = made("ppff");
        r.member(0);
        r.member(1);
        for (int i = 0; i < 3; i++) {
            is("owns", r.owns(0, 2, 1, i, -1), i);
            is("no owns", r.owns(0, 2, 0, i, -1), -2);
            is("kin", r.kin(0, 1, i, -1), i);
            is("no kin", r.kin(0, 1, i, i), -3);
            is("post", r.post(0, 2, i, -1), i);
            is("no post", r.post(0, 2, i, i - 5), -3);
            is("gift", r.gift(2, 0, 0, i, false, 1, 1), i);
            is("no gift", r.gift(2, 0, 4, i, false, 1, 1), -3);
            is("entry", entry(r, "x", 2, i, 0), i);
            is("no entry", entry(r, "X", 2, i, 0), -1);
            is("matter", r.matter(2, i), i);
            is("no matter", r.matter(4, i), -1);
            is("vote", r.vote(i, i % 2, true), i);
            is("no vote", r.vote(i, i % 2, true), -1);
        }
        for (int what = 2; what <= 9; what++) {
            is("count(" + what + ")", r.count(what), what == 6 ? 0 : 3);
        }
    }

    private static void owning() {
        sentence("OWNS (200 at most)");
        GiftRegister full = made("pff");
        for (int i = 0; i < 199; i++) {
            is("row " + i, full.owns(0, 1, 50, 0, -1), i);
        }
        is("199 of them", full.part(0, 1, 0, 0), 9950 * ONE);
        is("the 200th", full.owns(0, 1, 50, 0, -1), 199);
        is("it counts", full.part(0, 1, 0, 0), 10000 * ONE);
        refused(full, "the 201st", -5, () -> full.owns(0, 2, 1, 0, -1));
        is("it does not count", full.part(0, 2, 0, 0), 0);

        GiftRegister pairs = new GiftRegister();
        for (int i = 0; i < 30; i++) {
            party(pairs, "x", i < 20 ? 0 : 1);
        }
        for (int i = 0; i < 200; i++) {
            is("pair " + i, pairs.owns(i / 10, 20 + i % 10, 500, 0, -1), i);
        }
        for (int i = 0; i < 20; i++) {
            is("each pair counts", pairs.part(i, 20 + i % 10, 0, 0), 500 * ONE);
            is("each last one counts", pairs.part(i, 29, 0, 0), 500 * ONE);
        }

        sentence("a part (1 to 10000 of 10000)");
        GiftRegister r = made("pff");
        for (int part : new int[] {MIN, -1, 0, 10001, MAX}) {
            refused(r, "part " + part, -2, () -> r.owns(0, 1, part, 0, -1));
        }
        is("part 1", r.owns(0, 1, 1, 0, -1), 0);
        is("part 10000", r.owns(0, 2, 10000, 0, -1), 1);
        is("the least", r.part(0, 1, 0, 0), ONE);
        is("the whole", r.part(0, 2, 0, 0), 10000 * ONE);

        sentence("in a firm or trust, not itself");
        GiftRegister s = made("ppfftt");
        int rows = 0;
        for (int owner = 0; owner < 6; owner++) {
            for (int f = 0; f < 6; f++) {
                is(owner + " owns " + f, s.owns(owner, f, 1, 0, -1), owner == f || f < 2 ? -2 : rows++);
            }
        }
        for (int nobody : new int[] {MIN, -1, 6, 60, MAX}) {
            refused(s, nobody + " owns", -2, () -> s.owns(nobody, 2, 1, 0, -1));
            refused(s, nobody + " is owned", -2, () -> s.owns(0, nobody, 1, 0, -1));
        }

        sentence("from a day on, up to the day ahead of another one (or on and on)");
        GiftRegister t = made("pffff");
        t.owns(0, 1, 5, 10, 20);
        t.owns(0, 2, 5, 10, -1);
        t.owns(0, 3, 5, 10, 11);
        t.owns(0, 4, 5, 9998, 9999);
        int[][] due = {{1, 9, 0}, {1, 10, 5}, {1, 19, 5}, {1, 20, 0}, {2, 9, 0}, {2, 10, 5}, {2, 9999, 5},
            {3, 9, 0}, {3, 10, 5}, {3, 11, 0}, {4, 9997, 0}, {4, 9998, 5}, {4, 9999, 0}};
        for (int[] one : due) {
            is("part in " + one[0] + " on day " + one[1], t.part(0, one[0], one[1], 0), one[2] * ONE);
        }
        for (int until : new int[] {MIN, -2, 0, 9, 10, 10000, MAX}) {
            refused(t, "from 10 until " + until, -3, () -> t.owns(0, 1, 1, 10, until));
        }
        is("from 9999 until none", t.owns(0, 1, 1, 9999, -1), 4);
        refused(t, "from 9999 until 9999", -3, () -> t.owns(0, 1, 1, 9999, 9999));
    }

    private static void ownedTogether() {
        sentence("On no day are parts of one firm or trust, of all OWNS told so far, more than 10000 together");
        GiftRegister r = made("ppff");
        r.owns(0, 2, 4000, 0, 10);
        r.owns(1, 2, 4000, 5, 15);
        is("too much on day 9 alone", r.owns(3, 2, 2001, 9, 20), -4);
        is("too much on day 5 alone", r.owns(3, 2, 2001, 0, 6), -4);
        is("too much within", r.owns(3, 2, 2001, 0, -1), -4);
        is("up to day 4", r.owns(3, 2, 2001, 0, 5), 2);
        is("from day 10 on", r.owns(3, 2, 2001, 10, -1), 3);
        is("just the whole on days 5 to 9", r.owns(0, 2, 2000, 5, 10), 4);
        is("one more on day 5", r.owns(0, 2, 1, 5, 6), -4);
        is("one more on day 9", r.owns(0, 2, 1, 9, 10), -4);
        is("one more on day 7", r.owns(1, 2, 1, 7, 8), -4);
        is("day 4 has 3999 left", r.owns(0, 2, 4000, 4, 5), -4);
        is("day 4 has 3999 left", r.owns(0, 2, 3999, 4, 5), 5);
        is("day 10 has 3999 left", r.owns(0, 2, 4000, 10, 11), -4);
        is("day 10 has 3999 left", r.owns(0, 2, 3999, 10, 11), 6);
        is("the last day has 7999 left", r.owns(0, 2, 8000, 9999, -1), -4);
        is("the last day has 7999 left", r.owns(0, 2, 7999, 9999, -1), 7);
        is("then none", r.owns(0, 2, 1, 9999, -1), -4);
        is("the day ahead of it", r.owns(0, 2, 7999, 9998, 9999), 8);
        is("another firm", r.owns(0, 3, 10000, 0, -1), 9);
        r.next(9999);
        refused(r, "whenever they are told", -4, () -> r.owns(1, 3, 1, 0, 1));
        refused(r, "whoever has them", -4, () -> r.owns(2, 3, 1, 9999, -1));

        GiftRegister s = made("pf");
        s.owns(0, 1, 10000, 10, 20);
        is("round it", s.owns(0, 1, 1, 0, 30), -4);
        is("over its first day", s.owns(0, 1, 1, 0, 11), -4);
        is("over its last day", s.owns(0, 1, 1, 19, 30), -4);
        is("up to its first day", s.owns(0, 1, 10000, 0, 10), 1);
        is("behind its last day", s.owns(0, 1, 10000, 20, -1), 2);
        is("no day is left", s.owns(0, 1, 1, 0, 1), -4);
    }

    private static void kin() {
        sentence("KIN (100)");
        GiftRegister full = made("ppp");
        for (int i = 0; i < 99; i++) {
            is("row " + i, full.kin(0, 1, 0, -1), i);
        }
        is("the 100th", full.kin(2, 1, 0, -1), 99);
        is("it counts", full.degree(0, 2, 0, 0), 2);
        refused(full, "the 101st", -5, () -> full.kin(0, 2, 0, -1));
        is("it does not count", full.degree(0, 2, 0, 0), 2);

        sentence("KIN: two people");
        GiftRegister r = made("ppft");
        for (int other : new int[] {MIN, -1, 0, 2, 3, 4, 60, MAX}) {
            refused(r, "0 and " + other, -2, () -> r.kin(0, other, 0, -1));
            is(other + " and 0", r.kin(other, 0, 0, -1), -2);
        }

        sentence("KIN: from a day, up to the day ahead of another one, or on and on");
        GiftRegister s = made("ppp");
        s.kin(0, 1, 10, 20);
        s.kin(0, 2, 9998, -1);
        int[][] due = {{1, 9, 5}, {1, 10, 1}, {1, 19, 1}, {1, 20, 5}, {2, 9997, 5}, {2, 9998, 1}, {2, 9999, 1}};
        for (int[] one : due) {
            is("0 and " + one[0] + " on day " + one[1], s.degree(0, one[0], one[1], 0), one[2]);
            is(one[0] + " and 0 on day " + one[1], s.degree(one[0], 0, one[1], 0), one[2]);
        }
        for (int until : new int[] {MIN, -2, 0, 9, 10, 10000, MAX}) {
            refused(s, "from 10 until " + until, -3, () -> s.kin(0, 1, 10, until));
        }
        is("until the day behind", s.kin(0, 1, 10, 11), 2);
        is("until the last day", s.kin(0, 1, 9998, 9999), 3);
    }

    private static void posts() {
        sentence("POSTS (60)");
        GiftRegister full = made("pff");
        law(full, 0, "sit if post;");
        full.matter(2, 5);
        for (int i = 0; i < 59; i++) {
            is("row " + i, full.post(0, 1, 0, -1), i);
        }
        is("none there yet", full.sits(0, 0, 0), 0);
        refused(full, "until ahead of from", -3, () -> full.post(0, 2, 5, 4));
        is("the 60th", full.post(0, 2, 5, 5), 59);
        is("it counts", full.sits(0, 0, 0), 2);
        refused(full, "the 61st", -5, () -> full.post(0, 2, 0, -1));

        sentence("POSTS: a person at a firm or trust");
        GiftRegister r = made("ppft");
        is("at a firm", r.post(0, 2, 0, -1), 0);
        is("at a trust", r.post(0, 3, 0, -1), 1);
        for (int nowhere : new int[] {MIN, -1, 0, 1, 4, 60, MAX}) {
            refused(r, "at " + nowhere, -2, () -> r.post(0, nowhere, 0, -1));
        }
        for (int nobody : new int[] {MIN, -1, 2, 3, 4, 60, MAX}) {
            is(nobody + "'s", r.post(nobody, 2, 0, -1), -2);
        }

        sentence("POSTS: from a day to another one (both with it, or on and on)");
        GiftRegister s = made("pfff");
        law(s, 0, "sit if post;old 0;");
        s.post(0, 1, 10, 20);
        s.post(0, 2, 10, 10);
        s.post(0, 3, 9998, -1);
        int[][] due = {{1, 9, 0}, {1, 10, 2}, {1, 20, 2}, {1, 21, 0}, {2, 9, 0}, {2, 10, 2}, {2, 11, 0},
            {3, 9997, 0}, {3, 9998, 2}, {3, 9999, 2}};
        for (int m = 0; m < due.length; m++) {
            s.matter(due[m][0], due[m][1]);
            is("at " + due[m][0] + " on day " + due[m][1], s.sits(m, 0, 0), due[m][2]);
        }
        for (int until : new int[] {MIN, -2, 0, 9, 10000, MAX}) {
            refused(s, "from 10 until " + until, -3, () -> s.post(0, 1, 10, until));
        }
        is("until from", s.post(0, 1, 10, 10), 3);
    }

    private static void gifts() {
        sentence("GIFTS (120)");
        GiftRegister full = made("pf");
        for (int i = 0; i < 119; i++) {
            is("row " + i, full.gift(1, 0, 0, 0, false, 1, 1), i);
        }
        is("the 120th", full.gift(1, 0, 3, 7, true, 2, 3), 119);
        is("its least", full.judged(119, 0, 3), 2);
        is("its most", full.judged(119, 0, 4), 3);
        is("all are summed", full.judged(119, 0, 7), 121);
        is("all are asked for", full.asked(0, 0, 0), 120);
        yes("it is told", full.tell(119));
        yes("it has another worth", full.worth(119, 5, 6));
        yes("it is given back", full.back(119, 8));
        refused(full, "the 121st", -5, () -> full.gift(1, 0, 0, 0, false, 1, 1));
        is("no such one", guarded(() -> full.judged(120, 0, 3)), THROWN);

        sentence("a GIVER (any PARTY) to a person, not itself");
        GiftRegister r = made("ppft");
        int rows = 0;
        for (int giver = 0; giver < 4; giver++) {
            for (int to = 0; to < 4; to++) {
                is(giver + " to " + to, r.gift(giver, to, 0, 0, false, 1, 1), to > 1 || giver == to ? -2 : rows++);
            }
        }
        for (int nobody : new int[] {MIN, -1, 4, 60, MAX}) {
            refused(r, nobody + " gives", -2, () -> r.gift(nobody, 0, 0, 0, false, 1, 1));
            refused(r, nobody + " is given", -2, () -> r.gift(2, nobody, 0, 0, false, 1, 1));
        }

        sentence("of a KIND (0 gift, 1 meal, 2 journey, 3 share)");
        GiftRegister s = made("pf");
        for (int kind : new int[] {MIN, -1, 4, 5, MAX}) {
            refused(s, "kind " + kind, -3, () -> s.gift(1, 0, kind, 0, false, 1, 1));
        }
        law(s, 0, "tell if gift;tell if meal;tell if journey;tell if share;");
        for (int kind = 0; kind < 4; kind++) {
            is("kind " + kind, s.gift(1, 0, kind, 0, false, 1, 1), kind);
            is("its word", s.judged(kind, 0, 1), kind);
        }

        sentence("worth from a least to a most (pence, 0 to 1000000)");
        GiftRegister t = made("pf");
        for (int bad : NO_WORTHS) {
            refused(t, "least " + bad, -4, () -> t.gift(1, 0, 0, 0, false, bad, bad < 0 ? 5 : bad));
            refused(t, "most " + bad, -4, () -> t.gift(1, 0, 0, 0, false, 0, bad));
        }
        refused(t, "least 1 over most", -4, () -> t.gift(1, 0, 0, 0, false, 1, 0));
        refused(t, "least 1000000 over most", -4, () -> t.gift(1, 0, 0, 0, false, 1000000, 999999));
        is("nothing", t.gift(1, 0, 0, 0, false, 0, 0), 0);
        is("all", t.gift(1, 0, 0, 0, false, 1000000, 1000000), 1);
        is("from nothing to all", t.gift(1, 0, 0, 0, false, 0, 1000000), 2);
        is("least", t.judged(2, 0, 3), 0);
        is("most", t.judged(2, 0, 4), 1000000);
    }

    private static void worths() {
        sentence("A WORTH (200) tells another least and most of one");
        GiftRegister r = made("pf");
        r.gift(1, 0, 0, 0, false, 10, 20);
        r.gift(1, 0, 0, 0, false, 30, 40);
        for (int i = 0; i < 199; i++) {
            yes("worth " + i, r.worth(0, i, i + 1));
        }
        is("the 199th counts", r.judged(0, 0, 3), 198);
        is("the other gift's own", r.judged(1, 0, 3), 30);
        yes("the 200th", r.worth(1, 0, 1000000));
        is("it counts", r.judged(1, 0, 4), 1000000);
        no("the 201st", r.worth(1, 5, 6));
        no("the 201st, of the other one", r.worth(0, 5, 6));
        is("it does not count", r.judged(1, 0, 4), 1000000);

        sentence("WORTH: false: no such GIFT, not as told");
        GiftRegister s = made("pf");
        no("no gift at all", s.worth(0, 1, 2));
        s.gift(1, 0, 0, 0, false, 10, 20);
        for (int g : new int[] {MIN, -1, 1, 120, MAX}) {
            no("gift " + g, s.worth(g, 1, 2));
        }
        for (int bad : NO_WORTHS) {
            no("least " + bad, s.worth(0, bad, bad < 0 ? 5 : bad));
            no("most " + bad, s.worth(0, 0, bad));
        }
        no("least over most", s.worth(0, 2, 1));
        is("least stays", s.judged(0, 0, 3), 10);
        is("most stays", s.judged(0, 0, 4), 20);
        yes("nothing", s.worth(0, 0, 0));
        is("most", s.judged(0, 0, 4), 0);
        yes("all", s.worth(0, 1000000, 1000000));
        is("least", s.judged(0, 0, 3), 1000000);

        sentence("(the latest KNOWN counts)");
        GiftRegister t = made("pf");
        t.gift(1, 0, 0, 0, false, 10, 20);
        t.worth(0, 11, 21);
        is("on the gift's own day", t.judged(0, 0, 3), 11);
        t.next(3);
        t.worth(0, 13, 23);
        t.worth(0, 12, 22);
        is("two of one day: the later one", t.judged(0, 3, 3), 12);
        is("its most", t.judged(0, 3, 4), 22);
        is("as of the day ahead", t.judged(0, 2, 3), 11);
        t.next(1);
        t.gift(1, 0, 0, 0, false, 50, 60);
        t.worth(1, 51, 61);
        is("another gift's", t.judged(0, 4, 4), 22);
    }

    private static void backAndTold() {
        sentence("A GIFT may be given BACK on a day, not ahead of its own, once");
        GiftRegister r = made("pf");
        for (int i = 0; i < 4; i++) {
            r.gift(1, 0, 0, i == 3 ? 9999 : 50, false, 10, 20);
        }
        for (int g : new int[] {MIN, -1, 4, 120, MAX}) {
            no("gift " + g, r.back(g, 60));
        }
        no("the day ahead of its own", r.back(0, 49));
        no("day 0", r.back(0, 0));
        no("behind 9999", r.back(0, 10000));
        no("far behind", r.back(0, MAX));
        no("below", r.back(0, -1));
        is("it was not", r.judged(0, 0, 5), -1);
        yes("its own day", r.back(0, 50));
        is("on it", r.judged(0, 0, 5), 50);
        no("once more", r.back(0, 60));
        no("once more on that day", r.back(0, 50));
        is("still the first", r.judged(0, 0, 5), 50);
        yes("the day behind", r.back(1, 51));
        yes("the last day", r.back(2, 9999));
        is("on it", r.judged(2, 0, 5), 9999);
        no("ahead of the last day", r.back(3, 9998));
        yes("a gift of the last day", r.back(3, 9999));

        sentence("and be TOLD by who has it, once, on TODAY");
        GiftRegister s = made("pf");
        no("no gift at all", s.tell(0));
        s.gift(1, 0, 0, 5000, false, 10, 20);
        s.gift(1, 0, 0, 0, false, 10, 20);
        s.gift(1, 0, 0, 0, false, 10, 20);
        for (int g : new int[] {MIN, -1, 3, 120, MAX}) {
            no("gift " + g, s.tell(g));
        }
        yes("ahead of its day", s.tell(0));
        is("on day 0", s.judged(0, 0, 6), 0);
        s.next(7);
        no("once more", s.tell(0));
        is("still on day 0", s.judged(0, 7, 6), 0);
        yes("on day 7", s.tell(1));
        is("as of the day ahead", s.judged(1, 6, 6), -1);
        is("on day 7", s.judged(1, 7, 6), 7);
        s.next(9992);
        yes("on the last day", s.tell(2));
        is("on the last day", s.judged(2, 9999, 6), 9999);
    }

    // ---------------------------------------------------------------- the document: owners and kin

    private static void chainEdges() {
        sentence("the part that one has in another one: of all OWNS between the two on d together");
        GiftRegister r = made("pff");
        r.owns(0, 1, 3000, 0, 20);
        r.owns(0, 1, 2001, 10, -1);
        r.owns(1, 2, 5000, 0, -1);
        is("the first alone", r.part(0, 1, 9, 0), 3000 * ONE);
        is("both", r.part(0, 1, 10, 0), 5001 * ONE);
        is("both, the last day", r.part(0, 1, 19, 0), 5001 * ONE);
        is("the second alone", r.part(0, 1, 20, 0), 2001 * ONE);
        is("both in a chain", r.part(0, 2, 10, 0), 5001L * 5000 * (ONE / 10000));
        is("they are one chain", r.chain(0, 2, 10, 0), 3);
        is("both control", r.head(1, 10, 0), 0);
        is("the first alone does not", r.head(1, 9, 0), 1);

        sentence("A CHAIN from x to f: one to four parts");
        GiftRegister line = made("pffffff");
        for (int i = 0; i < 6; i++) {
            line.owns(i, i + 1, 10000, 0, -1);
        }
        for (int f = 1; f <= 6; f++) {
            is("to " + f, line.part(0, f, 0, 0), f <= 4 ? 10000 * ONE : 0);
            is("how many to " + f, line.chain(0, f, 0, 0), f <= 4 ? f + 1 : 0);
        }
        outIs(line, 0, 1, 2, 3, 4);
        is("four parts from 2", line.part(2, 6, 0, 0), 10000 * ONE);
        is("none back", line.part(4, 3, 0, 0), 0);
        is("none to a person", line.part(4, 0, 0, 0), 0);
        is("none to itself", line.part(3, 3, 0, 0), 0);
        is("no chain to itself", line.chain(3, 3, 0, 0), 0);
        is("a person's to itself", line.part(0, 0, 0, 0), 0);

        sentence("no PARTY twice");
        GiftRegister ring = made("pff");
        ring.owns(0, 1, 5000, 0, -1);
        ring.owns(1, 2, 10000, 0, -1);
        ring.owns(2, 1, 5000, 0, -1);
        is("not round again", ring.part(0, 1, 0, 0), 5000 * ONE);
        is("nor ahead of the last", ring.part(0, 2, 0, 0), 5000 * ONE);
        is("not back to itself", ring.part(1, 1, 0, 0), 0);
        is("no chain to itself", ring.chain(2, 2, 0, 0), 0);
        is("not through the first one", ring.part(2, 1, 0, 0), 5000 * ONE);

        sentence("its product: of all its parts by 10000. PART: the sum of the products of all CHAINS");
        GiftRegister least = made("pffff");
        for (int i = 0; i < 4; i++) {
            least.owns(i, i + 1, 1, 0, -1);
        }
        is("the least product", least.part(0, 4, 0, 0), 1);
        is("one part less", least.part(0, 3, 0, 0), 10000);
        is("its chain", least.chain(0, 4, 0, 0), 5);
        least.owns(0, 4, 9999, 0, -1);
        is("both chains", least.part(0, 4, 0, 0), 9999 * ONE + 1);
        is("the greater one", least.chain(0, 4, 0, 0), 2);
        GiftRegister most = made("pffff");
        most.owns(0, 1, 5000, 0, -1);
        most.owns(0, 2, 10000, 0, -1);
        most.owns(2, 1, 5000, 0, -1);
        is("the whole by two chains", most.part(0, 1, 0, 0), 10000 * ONE);
        chainFirst();
    }

    private static void chainFirst() {
        sentence("the CHAIN with the greatest product (of like ones the shortest, of these the first)");
        GiftRegister r = made("pffffff");
        // From 0 to 6 by way of 4 and 5, of 3, of 2, of 1, and straight: a quarter each, but for a little less by 1.
        r.owns(0, 4, 5000, 0, -1);
        r.owns(4, 5, 10000, 0, -1);
        r.owns(5, 6, 5000, 0, -1);
        is("three parts", r.chain(0, 6, 0, 0), 4);
        outIs(r, 0, 4, 5, 6);
        r.owns(0, 3, 10000, 0, -1);
        r.owns(3, 6, 2500, 0, 10);
        is("two parts, like product", r.chain(0, 6, 0, 0), 3);
        outIs(r, 0, 3, 6);
        r.owns(0, 2, 10000, 0, -1);
        r.owns(2, 6, 2500, 0, 10);
        is("the lesser number", r.chain(0, 6, 0, 0), 3);
        outIs(r, 0, 2, 6);
        is("no more on day 10", r.chain(0, 6, 10, 0), 4);
        r.owns(1, 6, 2499, 10, -1);
        r.owns(0, 1, 10000, 0, -1);
        is("less by one", r.chain(0, 6, 10, 0), 4);
        outIs(r, 0, 4, 5, 6);
        r.owns(0, 6, 2500, 10, 20);
        is("one part, like product", r.chain(0, 6, 10, 0), 2);
        outIs(r, 0, 6);
        is("as it was", r.chain(0, 6, 20, 0), 4);
        is("part of all", r.part(0, 6, 0, 0), 7500 * ONE);

        sentence("PARTY by PARTY the lesser number");
        GiftRegister s = made("pfffff");
        // 0 1 4 5 and 0 2 3 5 and 0 1 3 5: the second PARTY goes ahead of the third.
        s.owns(0, 2, 5000, 0, -1);
        s.owns(2, 3, 5000, 0, -1);
        s.owns(3, 5, 5000, 0, -1);
        s.owns(0, 1, 5000, 0, -1);
        s.owns(1, 4, 5000, 0, -1);
        s.owns(4, 5, 5000, 0, -1);
        is("three parts", s.chain(0, 5, 0, 0), 4);
        outIs(s, 0, 1, 4, 5);
        s.owns(1, 3, 5000, 0, -1);
        is("three parts", s.chain(0, 5, 0, 0), 4);
        outIs(s, 0, 1, 3, 5);
    }

    private static void controlEdges() {
        sentence("x CONTROLS f, if the parts are more than 5000 together");
        GiftRegister r = made("pfff");
        r.owns(0, 1, 5000, 0, 10);
        r.owns(0, 1, 5001, 10, -1);
        is("5000", r.head(1, 9, 0), 1);
        is("5001", r.head(1, 10, 0), 0);
        r.owns(1, 2, 2500, 0, -1);
        r.owns(0, 2, 2500, 0, 20);
        r.owns(0, 2, 2501, 20, -1);
        is("2500 and 2500", r.head(2, 19, 0), 2);
        is("2500 and 2501", r.head(2, 20, 0), 0);
        is("2501 without the one that is not controlled", r.part(0, 2, 20, 0), 2501 * ONE + 5001L * 2500 * (ONE / 10000));
        r.owns(0, 3, 10000, 0, -1);
        is("the whole", r.head(3, 0, 0), 0);

        sentence("the parts that x and all that it CONTROLS have in f (each its own, f not)");
        GiftRegister own = made("pfff");
        own.owns(0, 1, 5001, 0, -1);
        own.owns(1, 2, 5001, 0, -1);
        own.owns(2, 3, 5001, 0, -1);
        is("one's own, though the part of all is a quarter", own.head(2, 0, 0), 0);
        is("and so on", own.head(3, 0, 0), 0);
        GiftRegister half = made("pfff");
        half.owns(0, 1, 5000, 0, -1);
        half.owns(1, 2, 5001, 0, -1);
        half.owns(0, 2, 4999, 0, -1);
        is("parts of one that is not controlled don't count", half.head(2, 0, 0), 1);
        GiftRegister around = made("pff");
        around.owns(0, 1, 3000, 0, -1);
        around.owns(1, 2, 6000, 0, -1);
        around.owns(2, 1, 3000, 0, -1);
        is("f not: its own parts by way of another one", around.head(1, 0, 0), 1);
        is("what it controls", around.head(2, 0, 0), 1);

        sentence("(the fewest that this makes, found by going on from none)");
        GiftRegister none = made("pff");
        none.owns(0, 1, 4000, 0, -1);
        none.owns(0, 2, 4000, 0, -1);
        none.owns(1, 2, 6000, 0, -1);
        none.owns(2, 1, 6000, 0, -1);
        is("two that hold one another up are not 0's", none.head(1, 0, 0), 1);
        is("the other one", none.head(2, 0, 0), 1);
        is("0 itself", none.head(0, 0, 0), 0);
    }

    private static void headEdges() {
        sentence("HEAD: the least of those that CONTROL it and that no other one CONTROLS");
        GiftRegister r = made("fffp");
        r.owns(1, 2, 6000, 0, -1);
        is("the one", r.head(2, 0, 0), 1);
        r.owns(3, 1, 6000, 0, -1);
        is("of two the one that is free", r.head(2, 0, 0), 3);
        is("that of the other one", r.head(1, 0, 0), 3);
        is("its own", r.head(3, 0, 0), 3);
        is("one that none controls", r.head(0, 0, 0), 0);

        sentence("without any the least of itself and those that CONTROL it");
        GiftRegister ring = made("ffffff");
        ring.owns(1, 3, 6000, 0, -1);
        ring.owns(3, 1, 6000, 0, -1);
        ring.owns(3, 2, 6000, 0, -1);
        ring.owns(3, 0, 6000, 0, -1);
        ring.owns(0, 4, 6000, 0, -1);
        is("the least of the ring", ring.head(1, 0, 0), 1);
        is("the other one", ring.head(3, 0, 0), 1);
        is("one that hangs on it", ring.head(2, 0, 0), 1);
        is("one that is less than all of the ring", ring.head(0, 0, 0), 0);
        is("what that one has", ring.head(4, 0, 0), 0);
        is("one without owners", ring.head(5, 0, 0), 5);

        sentence("HEAD, of a PARTY that is round about its own owner");
        GiftRegister self = made("pfff");
        self.owns(2, 1, 6000, 0, -1);
        self.owns(2, 3, 6000, 0, -1);
        self.owns(1, 2, 3000, 0, -1);
        self.owns(3, 2, 3000, 0, -1);
        is("no other one controls it", self.head(2, 0, 0), 2);
        is("what it controls", self.head(1, 0, 0), 2);
        is("what it controls", self.head(3, 0, 0), 2);

        sentence("Two PARTIES are of one GROUP, if their HEADS are the same");
        GiftRegister group = made("pffffff");
        group.owns(2, 4, 6000, 0, -1);
        group.owns(4, 2, 6000, 0, -1);
        group.owns(4, 3, 6000, 0, -1);
        group.owns(4, 1, 6000, 0, -1);
        int[] givers = {4, 2, 3, 1, 5};
        for (int giver : givers) {
            group.gift(giver, 0, 0, 0, false, 1, 1);
        }
        is("the ring and what hangs on it", group.judged(0, 0, 8), 3);
        is("likewise", group.judged(2, 0, 8), 3);
        is("one controlled, that is less than all of them", group.judged(3, 0, 8), 1);
        is("another one", group.judged(4, 0, 8), 1);
    }

    private static void degreeEdges() {
        sentence("DEGREE: the fewest KIN from one to the other (0 itself)");
        GiftRegister r = made("ppppppp");
        for (int i = 0; i < 5; i++) {
            r.kin(i, i + 1, 0, -1);
        }
        for (int i = 0; i <= 4; i++) {
            is("0 and " + i, r.degree(0, i, 0, 0), i);
            is(i + " and 0", r.degree(i, 0, 0, 0), i);
        }
        sentence("5 if there are more than 4, or none");
        is("five", r.degree(0, 5, 0, 0), 5);
        is("five, from there", r.degree(5, 0, 0, 0), 5);
        is("four of them", r.degree(1, 5, 0, 0), 4);
        is("none", r.degree(0, 6, 0, 0), 5);
        is("none to itself", r.degree(6, 6, 0, 0), 0);
        sentence("DEGREE: the fewest KIN");
        r.kin(5, 2, 0, -1);
        is("a shorter way", r.degree(0, 5, 0, 0), 3);
        r.kin(5, 0, 0, -1);
        is("the shortest way", r.degree(0, 5, 0, 0), 1);
        is("round by the other side", r.degree(0, 4, 0, 0), 2);
        sentence("DEGREE: KIN on day d");
        GiftRegister s = made("ppp");
        s.kin(0, 1, 10, 20);
        s.kin(1, 2, 19, 30);
        int[][] due = {{9, 5, 5, 5}, {10, 1, 5, 5}, {18, 1, 5, 5}, {19, 1, 1, 2}, {20, 5, 1, 5}, {29, 5, 1, 5}, {30, 5, 5, 5}};
        for (int[] one : due) {
            is("0 and 1 on day " + one[0], s.degree(0, 1, one[0], 0), one[1]);
            is("1 and 2 on day " + one[0], s.degree(1, 2, one[0], 0), one[2]);
            is("0 and 2 on day " + one[0], s.degree(0, 2, one[0], 0), one[3]);
        }
    }

    // ---------------------------------------------------------------- the document: laws

    private static void lawsInForce() {
        sentence("LAWS, 6 at most");
        GiftRegister six = made("pf");
        six.gift(1, 0, 0, 0, false, 1, 1);
        for (int i = 1; i <= 6; i++) {
            is("law " + i, law(six, 0, "tell within " + i + " if gift;"), 1);
            is("it counts", six.judged(0, 0, 2), i);
        }
        refusedText(six, "the seventh", "tell within 7 if gift;", -1000, () -> six.law(0));
        refusedText(six, "an empty seventh", "", -1000, () -> six.law(0));
        refusedText(six, "a seventh with a fault", "tell", -1000, () -> six.law(0));
        is("it does not count", six.judged(0, 0, 2), 6);

        sentence("For a day d the LAW with the latest such day not behind d");
        GiftRegister r = made("pf");
        int[] days = {0, 9, 10, 19, 20, 21, 9998, 9999};
        int[] due = {-1, -1, 11, 20, 22, 23, 10000, 10002};
        for (int day : days) {
            r.gift(1, 0, 0, day, false, 1, 1);
        }
        law(r, 20, "tell within 2 if gift;");
        law(r, 9999, "tell within 3 if gift;");
        law(r, 10, "tell within 1 if gift;");
        for (int g = 0; g < days.length; g++) {
            is("on day " + days[g], r.judged(g, 0, 2), due[g]);
        }
        sentence("LAWS: of like ones the one told last");
        law(r, 10, "tell within 4 if gift;");
        is("on day 10", r.judged(2, 0, 2), 14);
        is("on day 19", r.judged(3, 0, 2), 23);
        is("on day 20 as ahead", r.judged(4, 0, 2), 22);
        is("on day 9 as ahead", r.judged(1, 0, 2), -1);
        r.next(1);
        law(r, 0, "tell within 5 if gift;");
        is("on day 9, then", r.judged(1, 1, 2), 14);
        is("on day 9, as of the day ahead", r.judged(1, 0, 2), -1);
        is("on day 10 no other one", r.judged(2, 1, 2), 14);
        law(r, 9999, "");
        is("the empty text told last", r.judged(7, 1, 2), -1);
        is("as of the day ahead", r.judged(7, 0, 2), 10002);

        sentence("LAWS: without any the empty text");
        GiftRegister s = made("ppf");
        s.kin(0, 1, 0, -1);
        s.gift(2, 0, 0, 1000, false, 1, 1);
        s.gift(2, 1, 0, 636, false, 2, 2);
        s.gift(2, 1, 0, 635, false, 4, 4);
        s.matter(0, 1000);
        s.member(0);
        is("state", s.judged(0, 0, 0), 0);
        is("rule", s.judged(0, 0, 1), -1);
        is("due", s.judged(0, 0, 2), -1);
        is("sum of 365 days, of kin 1", s.judged(0, 0, 7), 3);
        is("count", s.judged(0, 0, 8), 2);
        is("sits", s.sits(0, 0, 0), 0);
        is("quorum", s.quorum(0, 0), 1);
    }

    private static void fails(String text, int kind, int place) {
        GiftRegister r = new GiftRegister();
        is(text, law(r, 0, text), -1 - place);
        is(text + " (its kind)", r.fault(), kind);
        is(text + " (none more)", r.count(6), 0);
        is(text + " (the tape is empty)", r.count(11), 0);
    }

    private static void stands(String text, int rules) {
        GiftRegister r = new GiftRegister();
        is(text, law(r, 0, text), rules);
        is(text + " (no fault)", r.fault(), 0);
        is(text + " (one more)", r.count(6), 1);
        is(text + " (the tape is empty)", r.count(11), 0);
    }

    private static boolean isRun(int b) {
        return b >= 'a' && b <= 'z' || b >= '0' && b <= '9';
    }

    private static void tokens() {
        sentence("TOKENS, with blanks (32, 10) between them or not");
        stands("", 0);
        stands(" ", 0);
        stands("\n", 0);
        stands("kin 1;", 1);
        stands("kin\n1\n;", 1);
        stands(" \n kin \n\n 1 \n ; \n ", 1);
        stands("tell if not(gift)and(meal)or(least<1);sit if kin;", 2);
        stands("tell within 5 if ( gift ) ;", 1);
        for (int b = 0; b < 256; b++) {
            String sign = String.valueOf((char) b);
            boolean isBlank = b == 32 || b == 10;
            if (isBlank) {
                stands(sign, 0);
                stands("kin 1;" + sign, 1);
                stands("kin" + sign + "1;", 1);
            } else {
                fails(sign, 1, 0);
                fails("kin 1;" + sign, 1, 6);
                // A letter or a digit makes one run with what stands round it.
                fails("kin" + sign + "1;", 1, isRun(b) ? 0 : 3);
            }
            if (b == ';') {
                stands("kin 1" + sign, 1);
            } else if (b >= '0' && b <= '9') {
                fails("kin 1" + sign, 2, 4);
            } else {
                fails("kin 1" + sign, 1, isBlank ? 6 : isRun(b) ? 4 : 5);
            }
        }

        sentence("WORDS: small letters; NUMBERS: 1 to 7 digits");
        stands("tell if least<1;", 1);
        stands("tell if least<1234567;", 1);
        fails("tell if least<12345678;", 1, 14);
        fails("tell if least<00000001;", 1, 14);
        stands("kin 0000001;", 1);
        fails("kin 00000001;", 1, 4);
        fails("kin 12345678901234567890;", 1, 4);
        fails("kin;", 1, 3);
        fails("Kin 1;", 1, 0);
        fails("kIn 1;", 1, 0);
        fails("kiN 1;", 1, 0);

        sentence("(A WORD, NUMBER goes on as long as small letters and digits do; what is not as told is no TOKEN)");
        fails("kin1;", 1, 0);
        fails("kinx 1;", 1, 0);
        fails("xkin 1;", 1, 0);
        fails("kin 1x;", 1, 4);
        fails("kin x1;", 1, 4);
        fails("kinz 1;", 1, 0);
        fails("akin 1;", 1, 0);
        fails("kin0 1;", 1, 0);
        fails("kin9 1;", 1, 0);
        fails("kin` 1;", 1, 3);
        fails("kin{ 1;", 1, 3);
        fails("kin/ 1;", 1, 3);
        fails("kin: 1;", 1, 3);
        fails("kin@ 1;", 1, 3);
        fails("kin[ 1;", 1, 3);
        fails("kin 1/;", 1, 5);
        fails("kin 1:;", 1, 5);
        fails("tell if giftand meal;", 1, 8);
        fails("tell if gift andmeal;", 1, 13);
        fails("tellif gift;", 1, 0);
        fails("tell if notgift;", 1, 8);
        fails("kin 1;kin1;", 1, 6);
        signs();
    }

    private static void signs() {
        sentence("SIGN: < = >");
        for (int b = 0; b < 256; b++) {
            String text = "tell if least" + (char) b + "1;";
            if (b == '<' || b == '=' || b == '>') {
                stands(text, 1);
            } else {
                fails(text, 1, isRun(b) ? 8 : b == 32 || b == 10 ? 14 : 13);
            }
        }
        fails("tell if least<=1;", 1, 14);
        fails("tell if least=>1;", 1, 14);
        fails("tell if least<>1;", 1, 14);
        fails("tell if 1<least;", 1, 8);
        stands("tell if least < 1 ;", 1);

        sentence("that behind a SIGN may be any");
        String[] atoms = {"tell if least", "tell if most", "tell if sum", "tell if count",
            "sit if part", "sit if kinpart", "may if sum", "may if count"};
        for (String atom : atoms) {
            stands(atom + "<0;", 1);
            stands(atom + "=0000000;", 1);
            stands(atom + ">9999999;", 1);
            fails(atom + ">10000000;", 1, atom.length() + 1);
        }
    }

    private static void ruleNumbers() {
        sentence("'tell' [ 'within' NUMBER ] (0 to 999 days)");
        stands("tell within 0 if gift;", 1);
        stands("tell within 999 if gift;", 1);
        fails("tell within 1000 if gift;", 2, 12);
        fails("tell within 9999999 if gift;", 2, 12);
        fails("tell within if gift;", 1, 12);
        fails("tell within 5 5 if gift;", 1, 14);
        fails("tell 5 if gift;", 1, 5);
        fails("sit within 5 if kin;", 1, 4);
        fails("may within 5 if kin;", 1, 4);

        sentence("'kin' NUMBER (0 to 4) | 'year' (1 to 999) | 'old' (0 to 3650) | 'link' (1 to 999) | 'quorum' (0 to 12)");
        String[] settings = {"kin", "year", "old", "link", "quorum"};
        int[][] ranges = {{0, 4}, {1, 999}, {0, 3650}, {1, 999}, {0, 12}};
        for (int i = 0; i < settings.length; i++) {
            int at = settings[i].length() + 1;
            stands(settings[i] + " " + ranges[i][0] + ";", 1);
            stands(settings[i] + " " + ranges[i][1] + ";", 1);
            fails(settings[i] + " " + (ranges[i][1] + 1) + ";", 2, at);
            fails(settings[i] + " 9999999;", 2, at);
            fails(settings[i] + " " + (ranges[i][1] + 1), 2, at);
            if (ranges[i][0] > 0) {
                fails(settings[i] + " 0;", 2, at);
                fails(settings[i] + " 0000000;", 2, at);
            }
            fails(settings[i] + ";", 1, at - 1);
            fails(settings[i] + " " + ranges[i][0], 1, at + 1);
            fails(settings[i] + " ;", 1, at);
            fails(settings[i] + " 1 1;", 1, at + 2);
            fails(settings[i] + " -1;", 1, at);
            fails(settings[i] + " if 1;", 1, at);
        }
    }

    /** The least and the greatest number of each sort of rule, and the one without it, each by what it does. */
    private static void ruleNumbersAtWork() {
        sentence("within: 0 to 999 days; 30 without it");
        GiftRegister r = made("pf");
        law(r, 0, "tell if gift;tell within 0 if meal;tell within 999 if journey;");
        for (int kind = 0; kind < 3; kind++) {
            r.gift(1, 0, kind, 9999, false, 1, 1);
            r.gift(1, 0, kind, 100, false, 1, 1);
        }
        int[] due = {10029, 130, 9999, 100, 10998, 1099};
        for (int g = 0; g < due.length; g++) {
            is("due", r.judged(g, 0, 2), due[g]);
            is("on the day", r.judged(g, due[g], 0), 3);
            is("behind it", r.judged(g, due[g] + 1, 0), 4);
        }

        sentence("kin: 0 to 4; 1 without it");
        kinAtWork("", 1);
        for (int number = 0; number <= 4; number++) {
            kinAtWork("kin " + number + ";", number);
        }

        sentence("quorum: 0 to 12; 0 without it");
        GiftRegister s = made("pf");
        s.matter(1, 10);
        s.matter(1, 9);
        s.member(0);
        law(s, 10, "quorum 12;");
        is("12", s.quorum(0, 0), -11);
        is("without a law", s.quorum(1, 0), 1);
        law(s, 10, "quorum 0;");
        is("0", s.quorum(0, 0), 1);
        law(s, 10, "kin 3;");
        is("without it", s.quorum(0, 0), 1);
    }

    /** People 0 to 5 in a row of kin: by the number, those up to that degree are near enough, and no others. */
    private static void kinAtWork(String text, int number) {
        GiftRegister r = made("ppppppf");
        for (int i = 0; i < 5; i++) {
            r.kin(i, i + 1, 0, -1);
        }
        law(r, 0, text + "tell if kin;sit if kin;may if kinpart>0;");
        for (int i = 1; i <= 5; i++) {
            r.gift(i, 0, 0, 50, false, 1, 1);
            is(text + " given by degree " + i, r.judged(i - 1, 0, 1), i <= number ? 0 : -1);
        }
        for (int i = 0; i <= 5; i++) {
            r.gift(6, i, 0, 60, false, 1, 1);
        }
        is(text + " given to how many", r.judged(5, 0, 8), number + 1);
        r.matter(0, 50);
        r.matter(6, 50);
        r.owns(0, 6, 1, 50, 51);
        for (int i = 0; i <= 5; i++) {
            is(text + " a matter about degree " + i, r.sits(0, i, 0), i <= number ? 2 : 0);
            is(text + " a part that degree " + i + " has", r.sits(1, i, 0), i > 0 && i <= number ? 1 : 0);
        }
    }

    private static void daysBackAtWork() {
        sentence("year: 1 to 999; 365 without it: the days d - year + 1 to d");
        yearAtWork("", 365);
        yearAtWork("year 1;", 1);
        yearAtWork("year 2;", 2);
        yearAtWork("year 999;", 999);

        sentence("old: 0 to 3650; 365 without it: no more than old days ahead of d");
        oldAtWork("", 365);
        oldAtWork("old 0;", 0);
        oldAtWork("old 1;", 1);
        oldAtWork("old 3650;", 3650);

        sentence("link: 1 to 999; 90 without it: one of the link days up to it (its own, too)");
        linkAtWork("", 90);
        linkAtWork("link 1;", 1);
        linkAtWork("link 2;", 2);
        linkAtWork("link 999;", 999);
    }

    private static void yearAtWork(String text, int year) {
        GiftRegister r = made("pf");
        law(r, 0, text);
        r.gift(1, 0, 0, 5000, false, 1, 1);
        is(text + " itself", r.judged(0, 0, 8), 1);
        r.gift(1, 0, 0, 5000 - year, false, 10, 10);
        is(text + " ahead of the first day", r.judged(0, 0, 8), 1);
        r.gift(1, 0, 0, 5000 - year + 1, false, 100, 100);
        is(text + " the first day", r.judged(0, 0, 7), 101);
        r.gift(1, 0, 0, 5000, false, 1000, 1000);
        is(text + " the last day", r.judged(0, 0, 7), 1101);
        r.gift(1, 0, 0, 5001, false, 10000, 10000);
        is(text + " behind the last day", r.judged(0, 0, 7), 1101);
        r.gift(1, 0, 0, 0, false, 7, 7);
        r.gift(1, 0, 0, 3, false, 70, 70);
        is(text + " a year that begins ahead of day 0", r.judged(6, 0, 7), year > 3 ? 77 : 70);
    }

    private static void oldAtWork(String text, int old) {
        GiftRegister r = made("ppppf");
        law(r, 0, text + "sit if post;");
        r.matter(4, 5000);
        r.post(0, 4, 0, 5000 - old);
        r.post(1, 4, 0, 5000 - old - 1);
        r.post(2, 4, 5001, -1);
        r.post(3, 4, 5000, -1);
        is(text + " ended so many days ahead", r.sits(0, 0, 0), 2);
        is(text + " ended one day more ahead", r.sits(0, 1, 0), 0);
        is(text + " begins the day behind", r.sits(0, 2, 0), 0);
        is(text + " begins on the day", r.sits(0, 3, 0), 2);
    }

    private static void linkAtWork(String text, int link) {
        GiftRegister r = made("ppppf");
        law(r, 0, text);
        r.matter(4, 5000);
        int[] days = {5000 - link + 1, 5000 - link, 5001, 5000};
        for (int p = 0; p < 4; p++) {
            r.member(p);
            r.vote(0, p, true);
            is(text + " not yet", r.links(0, 3), p == 0 ? 0 : 1);
            r.gift(4, p, 0, days[p], false, 1, 1);
            is(text + " given on " + days[p], r.links(0, 3), p < 3 ? 1 : 2);
        }
    }

    private static void rulesOnce() {
        sentence("8 at most; a ninth tell (at its WORD)");
        String tell = "tell if gift;";
        stands(tell.repeat(7), 7);
        stands(tell.repeat(8), 8);
        fails(tell.repeat(9), 3, 104);
        fails(tell.repeat(8) + "tell", 3, 104);
        fails(tell.repeat(8) + " \n tell within 1000", 3, 107);
        fails(tell.repeat(8) + "tells", 1, 104);
        stands(tell.repeat(8) + "sit if kin;may if kin;kin 1;year 1;old 1;link 1;quorum 1;", 15);
        GiftRegister r = made("pf");
        r.gift(1, 0, 3, 0, false, 1, 1);
        r.matter(1, 0);
        is("eight tells, sit and may", law(r, 0, "tell if gift;".repeat(7) + "tell within 8 if share;sit if kin or kin;may if not kin;"), 10);
        is("the eighth", r.judged(0, 0, 1), 7);
        is("its day", r.judged(0, 0, 2), 8);
        is("may", r.sits(0, 0, 0), 1);

        sentence("a RULE told twice (at its WORD)");
        String[] rules = {"sit if kin;", "may if kin;", "kin 1;", "year 1;", "old 1;", "link 1;", "quorum 1;"};
        for (int i = 0; i < rules.length; i++) {
            String word = rules[i].substring(0, rules[i].indexOf(' '));
            int at = rules[i].length();
            fails(rules[i] + rules[i], 3, at);
            fails(rules[i] + word, 3, at);
            fails(rules[i] + word + ";", 3, at);
            fails(rules[i] + " " + word + " 9999", 3, at + 1);
            fails(rules[i] + word + "s", 1, at);
            for (int k = 0; k < rules.length; k++) {
                if (k != i) {
                    stands(rules[i] + rules[k], 2);
                    fails(rules[i] + rules[k] + word, 3, at + rules[k].length());
                }
            }
        }
        stands("sit if kin;may if kin;kin 1;year 1;old 1;link 1;quorum 1;", 7);
        sentence("TEXT: { RULE }");
        fails(";", 1, 0);
        fails("kin 1;;", 1, 6);
        fails("if gift;", 1, 0);
        fails("gift;", 1, 0);
        fails("within 5;", 1, 0);
        fails("(", 1, 0);
        fails("1;", 1, 0);
        fails("kin 1", 1, 5);
        fails("kin 1 ", 1, 6);
    }

    private static final String[] TELL_PLAIN = {"gift", "meal", "journey", "share", "foreign", "kin", "back"};
    private static final String[] TELL_SIGN = {"least", "most", "sum", "count"};
    private static final String[] SIT_PLAIN = {"kin", "post"};
    private static final String[] SIT_SIGN = {"part", "kinpart", "sum", "count"};

    private static void atoms(String rule, String[] plain, String[] sign) {
        String begin = rule + " if ";
        int at = begin.length();
        for (String word : plain) {
            stands(begin + word + ";", 1);
            fails(begin + word + "<1;", 1, at + word.length());
            fails(begin + word + " 1;", 1, at + word.length() + 1);
        }
        for (String word : sign) {
            stands(begin + word + "<1;", 1);
            fails(begin + word + ";", 1, at + word.length());
            fails(begin + word + "<;", 1, at + word.length() + 1);
            fails(begin + word + " 1;", 1, at + word.length() + 1);
            fails(begin + word, 1, at + word.length());
            fails(begin + word + ">", 1, at + word.length() + 1);
            fails(begin + word + ">1", 1, at + word.length() + 2);
        }
        String all = " gift meal journey share foreign kin back least most sum count post part kinpart ";
        for (String word : all.trim().split(" ")) {
            boolean isKnown = java.util.List.of(plain).contains(word) || java.util.List.of(sign).contains(word);
            if (!isKnown) {
                fails(begin + word + ";", 1, at);
                fails(begin + word + "<1;", 1, at);
                fails(begin + "not " + word + ";", 1, at + 4);
            }
        }
    }

    private static void conditions() {
        sentence("ATOM, for tell; for sit, may");
        atoms("tell", TELL_PLAIN, TELL_SIGN);
        atoms("sit", SIT_PLAIN, SIT_SIGN);
        atoms("may", SIT_PLAIN, SIT_SIGN);

        sentence("COND: ALL { 'or' ALL }. ALL: ONE { 'and' ONE }. ONE: 'not' ONE | ( COND ) | ATOM");
        fails("tell if;", 1, 7);
        fails("tell if or gift;", 1, 8);
        fails("tell if and gift;", 1, 8);
        fails("tell if gift or;", 1, 15);
        fails("tell if gift and;", 1, 16);
        fails("tell if gift or and meal;", 1, 16);
        fails("tell if gift and or meal;", 1, 17);
        fails("tell if gift meal;", 1, 13);
        fails("tell if gift not meal;", 1, 13);
        fails("tell if gift(meal);", 1, 12);
        fails("tell if gift);", 1, 12);
        fails("tell if (gift;", 1, 13);
        fails("tell if ();", 1, 9);
        fails("tell if (gift));", 1, 14);
        fails("tell if not;", 1, 11);
        fails("tell if not or gift;", 1, 12);
        fails("tell if (gift or);", 1, 16);
        fails("tell if )gift(;", 1, 8);
        fails("tell if gift if meal;", 1, 13);
        fails("tell if gift", 1, 12);
        fails("tell if (", 1, 9);
        fails("tell if not", 1, 11);
        fails("tell if gift and", 1, 16);
        fails("tell", 1, 4);
        fails("tell ", 1, 5);
        fails("tell if", 1, 7);
        fails("tell within", 1, 11);
        fails("tell within 5", 1, 13);
        fails("tell if sit if kin;", 1, 8);
        fails("tell gift;", 1, 5);
        fails("sit kin;", 1, 4);
        fails("sit;", 1, 3);
        fails("may", 1, 3);
        truths();
    }

    /** Each condition for gifts of three kinds, foreign or not, and for matters of eight sorts. */
    private static void truths() {
        sentence("'not' binds closest, then 'and', then 'or'");
        holds("gift or meal and foreign", g -> g.isGift || g.isMeal && g.isForeign);
        holds("foreign and meal or gift", g -> g.isForeign && g.isMeal || g.isGift);
        holds("(gift or meal) and foreign", g -> (g.isGift || g.isMeal) && g.isForeign);
        holds("foreign and (meal or gift)", g -> g.isForeign && (g.isMeal || g.isGift));
        holds("not gift and foreign", g -> !g.isGift && g.isForeign);
        holds("not gift or foreign", g -> !g.isGift || g.isForeign);
        holds("not (gift and foreign)", g -> !(g.isGift && g.isForeign));
        holds("not (gift or foreign)", g -> !(g.isGift || g.isForeign));
        holds("foreign and not gift", g -> g.isForeign && !g.isGift);
        holds("not not gift", g -> g.isGift);
        holds("not not not gift", g -> !g.isGift);
        holds("not (not gift)", g -> g.isGift);
        holds("gift and foreign or meal and not foreign", g -> g.isGift && g.isForeign || g.isMeal && !g.isForeign);
        holds("gift or foreign and meal or not foreign and not meal", g -> g.isGift || g.isForeign && g.isMeal || !g.isForeign && !g.isMeal);
        holds("(gift or foreign) and (meal or not foreign)", g -> (g.isGift || g.isForeign) && (g.isMeal || !g.isForeign));
        holds("foreign and (gift or (meal and not (gift or not foreign)))", g -> g.isForeign && (g.isGift || g.isMeal));
        holds("gift and meal", g -> g.isGift && g.isMeal);
        holds("gift or not gift", g -> true);
        holds("gift and meal and foreign or foreign", g -> g.isForeign);
        holds("foreign or gift and meal and not meal", g -> g.isForeign);
        holds("((((gift))))", g -> g.isGift);
        holds("not(gift)and not(meal)or(foreign)", g -> !g.isGift && !g.isMeal || g.isForeign);
        holds("gift and (meal or meal) or (gift or meal) and foreign", g -> g.isGift && g.isMeal || (g.isGift || g.isMeal) && g.isForeign);
    }

    private interface Truth {
        boolean of(Sample g);
    }

    private static final class Sample {
        boolean isGift;
        boolean isMeal;
        boolean isForeign;
    }

    private static void holds(String cond, Truth truth) {
        GiftRegister r = made("pf");
        is(cond, law(r, 0, "tell if " + cond + ";"), 1);
        for (int i = 0; i < 6; i++) {
            Sample g = new Sample();
            g.isGift = i % 3 == 0;
            g.isMeal = i % 3 == 1;
            g.isForeign = i >= 3;
            r.gift(1, 0, i % 3, 0, i >= 3, 1, 1);
            is(cond + " of kind " + i % 3 + (i >= 3 ? ", foreign" : ""), r.judged(i, 0, 1), truth.of(g) ? 0 : -1);
        }
        GiftRegister s = made("ppf");
        String sitting = cond.replace("gift", "part>0").replace("meal", "count>0").replace("foreign", "post");
        is(sitting, law(s, 0, "sit if " + sitting + ";"), 1);
        for (int i = 0; i < 8; i++) {
            Sample g = new Sample();
            g.isGift = i % 2 == 1;
            g.isMeal = i / 2 % 2 == 1;
            g.isForeign = i >= 4;
            int f = party(s, name(40 + i), 1);
            if (g.isGift) {
                s.owns(0, f, 1, 0, -1);
            }
            if (g.isMeal) {
                s.gift(f, 0, 0, 0, false, 1, 1);
            }
            if (g.isForeign) {
                s.post(0, f, 0, -1);
            }
            s.matter(f, 0);
            is(sitting + " of " + i, s.sits(i, 0, 0), truth.of(g) ? 2 : 0);
        }
    }

    private static void oneLimits() {
        sentence("No more than 60 ONES in a text; a 61st ONE (at its first TOKEN)");
        String may = "may if kin";
        stands(may + " or kin".repeat(59) + ";", 1);
        fails(may + " or kin".repeat(60) + ";", 4, 10 + 59 * 7 + 4);
        fails(may + " or kin".repeat(59) + " and kin;", 4, 10 + 59 * 7 + 5);
        fails(may + " or kin".repeat(59) + " or not kin;", 4, 10 + 59 * 7 + 4);
        fails(may + " or kin".repeat(59) + " or (kin);", 4, 10 + 59 * 7 + 4);
        fails(may + " or kin".repeat(59) + " or part", 4, 10 + 59 * 7 + 4);
        fails(may + " or kin".repeat(58) + " or not kin;", 4, 10 + 58 * 7 + 8);
        fails(may + " or kin".repeat(58) + " or (kin);", 4, 10 + 58 * 7 + 5);
        stands(may + " or kin".repeat(57) + " or not kin;", 1);
        stands(may + " or kin".repeat(57) + " or (kin);", 1);
        stands(may + " or kin".repeat(58) + " or part>9999999;", 1);
        stands("tell if not gift" + " or not gift".repeat(29) + ";", 1);
        fails("tell if not gift" + " or not gift".repeat(29) + " or gift", 4, 16 + 29 * 12 + 4);
        stands("tell if (gift)" + " or (gift)".repeat(29) + ";", 1);
        fails("tell if (gift)" + " or (gift)".repeat(29) + " or gift;", 4, 14 + 29 * 10 + 4);
        sentence("60 ONES in a text: of all its RULES");
        String tell = "tell if gift or gift;";
        stands(tell.repeat(8) + "sit if kin" + " or kin".repeat(20) + ";may if kin" + " or kin".repeat(22) + ";", 10);
        fails(tell.repeat(8) + "sit if kin" + " or kin".repeat(20) + ";may if kin" + " or kin".repeat(23) + ";", 4,
            8 * 21 + 10 + 140 + 1 + 10 + 22 * 7 + 4);
        fails("sit if kin" + " or kin".repeat(59) + ";may if kin;", 4, 10 + 59 * 7 + 1 + 7);

        sentence("no more than 20 within one another; a 21st within (at its first TOKEN)");
        stands("tell if " + "(".repeat(19) + "gift" + ")".repeat(19) + ";", 1);
        fails("tell if " + "(".repeat(20) + "gift" + ")".repeat(20) + ";", 4, 28);
        fails("tell if " + "(".repeat(21), 4, 28);
        stands("tell if " + "not ".repeat(19) + "gift;", 1);
        fails("tell if " + "not ".repeat(20) + "gift;", 4, 88);
        fails("tell if " + "not ".repeat(21), 4, 88);
        fails("tell if " + "(".repeat(20) + "not gift", 4, 28);
        fails("tell if " + "(".repeat(20) + "least<1", 4, 28);
        stands("sit if " + "not(".repeat(9) + "not kin" + ")".repeat(9) + ";", 1);
        fails("sit if " + "not(".repeat(10) + "kin" + ")".repeat(10) + ";", 4, 47);
        stands("tell if " + "(".repeat(19) + "gift" + ")".repeat(19) + " or " + "(".repeat(19) + "gift or meal" + ")".repeat(19) + ";", 1);
        fails("tell if " + "(".repeat(19) + "gift or not gift", 4, 8 + 19 + 8 + 4);
        stands("tell if " + "(".repeat(18) + "gift or not gift and not meal" + ")".repeat(18) + ";", 1);
        stands("tell if " + "(gift and ".repeat(19) + "gift" + ")".repeat(19) + ";", 1);

        sentence("60 ONES, 20 within one another, at work");
        holds("gift" + " or gift".repeat(45), g -> g.isGift);
        holds("(".repeat(19) + "gift" + ")".repeat(19), g -> g.isGift);
        holds("not ".repeat(19) + "gift", g -> !g.isGift);
        holds("(gift or ".repeat(19) + "meal" + ")".repeat(19), g -> g.isGift || g.isMeal);
        holds("gift or " + "foreign and (gift or ".repeat(15) + "meal" + ")".repeat(15), g -> g.isGift || g.isForeign && g.isMeal);
        holds("not(".repeat(9) + "not gift" + ")".repeat(9), g -> g.isGift);
    }

    private static void faultPlaces() {
        sentence("FAULTS, the first along the text, of one TOKEN the least");
        fails("kin 5;kin 1;x", 2, 4);
        fails("kin 1;kin 5;", 3, 6);
        fails("kin 1;!kin", 1, 6);
        fails("tell within 1000 if post;", 2, 12);
        fails("tell if post and post;tell within 1000", 1, 8);
        fails("kin 99999999;", 1, 4);
        String many = "may if kin" + " or kin".repeat(59);
        fails(many + " or gift;", 1, many.length() + 4);
        fails(many + " or ;", 1, many.length() + 4);
        fails(many + " or 1;", 1, many.length() + 4);
        fails(many + " or !", 1, many.length() + 4);
        fails(many + " or ", 1, many.length() + 4);
        fails(many + " or or", 1, many.length() + 4);
        fails("tell if " + "(".repeat(20) + "post", 1, 28);
        fails("tell if " + "(".repeat(20) + ")", 1, 28);
        fails("tell if " + "(".repeat(20), 1, 28);
        fails("tell if " + "(".repeat(20) + "#", 1, 28);
        fails("sit if kin;sit#", 3, 11);
        fails("sit if kin;sit0 if", 1, 11);

        sentence("FAULTS: (at it; the end: how many bytes there are)");
        fails("tell if gift", 1, 12);
        fails("tell if gift \n ", 1, 15);
        fails("  x", 1, 2);
        fails("kin 1;" + " ".repeat(493) + "x", 1, 499);
        fails("kin" + " ".repeat(496), 1, 499);
        fails("kin" + " ".repeat(497), 1, 500);
    }

    private static void faultAtTheEdge() {
        sentence("texts of at most 500 bytes");
        stands(" ".repeat(499), 0);
        stands(" ".repeat(500), 0);
        stands("kin 1;" + " ".repeat(494), 1);
        stands(" ".repeat(494) + "kin 1;", 1);
        GiftRegister r = made("pf");
        r.gift(1, 0, 1, 0, false, 1, 1);
        is("its last rule counts", law(r, 0, " ".repeat(487) + "tell if meal;"), 1);
        is("it holds", r.judged(0, 0, 1), 0);

        sentence("500, if there are more and no FAULT is ahead");
        fails(" ".repeat(501), 1, 500);
        fails(" ".repeat(540), 1, 500);
        fails("kin 1;" + " ".repeat(495), 1, 500);
        fails("kin 1;" + " ".repeat(494) + "x", 1, 500);
        fails("kin 1;" + " ".repeat(494) + "kin 1;", 1, 500);
        fails("kin 1;" + " ".repeat(490) + "old 9999;", 1, 500);
        fails(" ".repeat(495) + "kin 1;", 1, 500);
        fails(" ".repeat(496) + "kin 9;", 1, 500);
        fails("may if kin" + " or kin".repeat(59) + " ".repeat(500 - 10 - 59 * 7 - 3) + "or kin;", 1, 500);
        fails("x" + " ".repeat(539), 1, 0);
        fails("kin 5;" + " ".repeat(534), 2, 4);
        fails("kin 1;kin" + " ".repeat(531), 3, 6);
        fails("may if kin" + " or kin".repeat(60) + " ".repeat(100), 4, 10 + 59 * 7 + 4);
        fails(" ".repeat(499) + "x" + " ".repeat(40), 1, 499);

        sentence("TOKENS that begin ahead of it are read whole");
        fails(" ".repeat(499) + "kin 1;", 1, 500);
        fails(" ".repeat(498) + "kin", 1, 500);
        fails(" ".repeat(498) + "kinx", 1, 498);
        fails(" ".repeat(499) + "quorum 12;", 1, 500);
        fails(" ".repeat(499) + "quorums", 1, 499);
        fails(" ".repeat(499) + "k!", 1, 499);
        fails(" ".repeat(499) + "quorum" + "a".repeat(35), 1, 499);
        fails(" ".repeat(495) + "kin 44;", 2, 499);
        fails(" ".repeat(495) + "kin 4;", 1, 500);
        fails(" ".repeat(495) + "kin 4x;", 1, 499);
        fails(" ".repeat(495) + "kin 0000004;", 1, 500);
        fails(" ".repeat(495) + "kin 00000004;", 1, 499);
        fails("kin 1;" + " ".repeat(493) + "kin", 3, 499);
        fails("kin 1;" + " ".repeat(493) + "kin1", 1, 499);
        String all = "may if kin" + " or kin".repeat(59);
        fails(all + " ".repeat(497 - all.length()) + "orkin;", 1, 497);
        fails(all + " ".repeat(496 - all.length()) + "or kin;", 4, 499);
        fails(all + " ".repeat(496 - all.length()) + "or kinpart", 4, 499);
        fails(all + " ".repeat(496 - all.length()) + "or kinparts", 1, 499);
    }

    private static void faultLeavesNothing() {
        sentence("law: -1 less the place of its FAULT: there is none more");
        GiftRegister r = made("ppf");
        r.gift(2, 0, 0, 100, false, 1, 1);
        r.gift(2, 0, 0, 99, false, 1, 1);
        r.matter(2, 200);
        r.member(0);
        r.vote(0, 0, true);
        r.kin(0, 1, 0, -1);
        r.gift(2, 1, 0, 100, false, 1, 1);
        r.post(0, 2, 0, 199);
        String all = "kin 0;year 1;old 0;link 200;quorum 9;tell within 7 if gift;sit if not kin;may if not kin;";
        refusedText(r, "all rules and a fault", all + "x", -1 - all.length(), () -> r.law(0));
        is("its kind", r.fault(), 1);
        is("no tell", r.judged(0, 0, 1), -1);
        is("no sit, no may", r.sits(0, 0, 0), 0);
        is("no quorum", r.quorum(0, 0), 1);
        is("no link", r.links(0, 3), 0);
        is("no year, no kin", r.judged(0, 0, 8), 3);
        is("a text of no such rules", law(r, 0, "tell if not gift;sit if post;"), 2);
        is("no within", r.judged(0, 0, 1), -1);
        is("old", r.sits(0, 0, 0), 2);
        is("no may", r.sits(0, 1, 0), 0);
        is("quorum", r.quorum(0, 0), 0);
        is("no link", r.links(0, 3), 0);
        is("no year, no kin", r.judged(0, 0, 8), 3);

        GiftRegister s = made("pf");
        s.matter(1, 0);
        String many = "sit if kin" + " or kin".repeat(58) + " or not kin";
        refusedText(s, "sixty ONES and one more", many + ";", -1 - many.length() + 3, () -> s.law(0));
        is("its kind", s.fault(), 4);
        is("as many again", law(s, 0, "sit if kin" + " or kin".repeat(57) + " or not kin;"), 1);
        is("it holds", s.sits(0, 0, 0), 2);
        refusedText(s, "a word left open", "may if not", -11, () -> s.law(0));
        is("none is open behind it", law(s, 0, "may if kin;"), 1);
        is("it does not hold", s.sits(0, 0, 0), 0);
        String open = "tell if " + "(".repeat(19) + "gift or not";
        refusedText(s, "brackets left open", open, -1 - open.length(), () -> s.law(0));
        is("none is open behind them", law(s, 0, "may if (not kin);"), 1);
        is("it holds", s.sits(0, 0, 0), 1);

        sentence("fault: of the latest law() that did not tell -1000; 0 without one and ahead of any");
        GiftRegister t = new GiftRegister();
        is("ahead of any", t.fault(), 0);
        is("no such day", put(t, "kin 5;").law(-1), -1000);
        is("ahead of any other one", t.fault(), 0);
        String[] texts = {"kin 5;", "!", "kin 1;kin", "may if kin" + " or kin".repeat(60), "kin 1;"};
        int[] kinds = {2, 1, 3, 4, 0};
        for (int i = 0; i < texts.length; i++) {
            law(t, 0, texts[i]);
            is(texts[i], t.fault(), kinds[i]);
            is("no such day", put(t, "x").law(10000), -1000);
            is(texts[i] + ", still", t.fault(), kinds[i]);
        }
        law(t, 0, "kin 5;");
        for (int i = 0; i < 5; i++) {
            is("another law", law(t, 0, ""), 0);
            is("no fault", t.fault(), 0);
        }
        is("the seventh", put(t, "x").law(0), -1000);
        is("still none", t.fault(), 0);
        GiftRegister u = new GiftRegister();
        for (int i = 0; i < 5; i++) {
            law(u, 0, "");
        }
        law(u, 0, "x");
        is("a fault", u.fault(), 1);
        law(u, 0, "");
        is("none", u.fault(), 0);
    }

    // ---------------------------------------------------------------- the document: judged

    private static void judgedAtoms() {
        sentence("gift .. share: its KIND; foreign");
        String[] kinds = {"gift", "meal", "journey", "share"};
        for (int w = 0; w < 4; w++) {
            GiftRegister one = made("pf");
            law(one, 0, "tell if " + kinds[w] + ";");
            for (int i = 0; i < 4; i++) {
                one.gift(1, 0, i, 0, i == 2, 1, 1);
                is(kinds[w] + " of kind " + i, one.judged(i, 0, 1), i == w ? 0 : -1);
            }
            law(one, 0, "tell if foreign;");
            is("foreign", one.judged(w, 0, 1), w == 2 ? 0 : -1);
        }

        sentence("kin: the DEGREE of p and its GIVER (a person) is kin's NUMBER at most, 0 not");
        GiftRegister kin = made("pppf");
        kin.kin(0, 1, 10, 20);
        kin.kin(1, 2, 10, 20);
        kin.owns(1, 3, 10000, 0, -1);
        law(kin, 0, "tell if kin;kin 1;");
        int[][] gifts = {{1, 9}, {1, 10}, {1, 19}, {1, 20}, {2, 10}, {3, 10}};
        int[] due = {-1, 0, 0, -1, -1, -1};
        for (int g = 0; g < gifts.length; g++) {
            kin.gift(gifts[g][0], 0, 0, gifts[g][1], false, 1, 1);
            is("from " + gifts[g][0] + " on day " + gifts[g][1], kin.judged(g, 0, 1), due[g]);
        }
        law(kin, 0, "tell if kin;kin 2;");
        is("of degree 2, at most 2", kin.judged(4, 0, 1), 0);
        is("a firm of kin", kin.judged(5, 0, 1), -1);
        law(kin, 0, "tell if kin;kin 0;");
        is("of degree 1, at most 0", kin.judged(1, 0, 1), -1);

        sentence("least, most: its worth; SIGN < = >");
        String[] atoms = {"least", "most"};
        for (int i = 0; i < 2; i++) {
            for (int number : new int[] {499, 500, 501}) {
                is(atoms[i] + " 500 < " + number, byWorth(atoms[i] + "<" + number), number > 500 ? 0 : -1);
                is(atoms[i] + " 500 = " + number, byWorth(atoms[i] + "=" + number), number == 500 ? 0 : -1);
                is(atoms[i] + " 500 > " + number, byWorth(atoms[i] + ">" + number), number < 500 ? 0 : -1);
            }
        }
        is("least not over 0", byWorth("least>9999999"), -1);
        is("least under the greatest", byWorth("least<9999999"), 0);
        is("least under 0", byWorth("least<0"), -1);
        GiftRegister nothing = made("pf");
        law(nothing, 0, "tell if least=0 and most=1000000 and not least<0 and not least>0;");
        nothing.gift(1, 0, 0, 0, false, 0, 1000000);
        is("from nothing to all", nothing.judged(0, 0, 1), 0);
        nothing.next(1);
        nothing.worth(0, 1, 1000000);
        is("another worth", nothing.judged(0, 1, 1), -1);
        is("as of the day ahead", nothing.judged(0, 0, 1), 0);
        GiftRegister most = made("pf");
        law(most, 0, "tell within 1 if most=20;tell within 2 if most=21;");
        most.gift(1, 0, 0, 0, false, 0, 20);
        most.next(3);
        most.worth(0, 0, 21);
        is("most as of the day ahead", most.judged(0, 2, 2), 1);
        is("most as of the day", most.judged(0, 3, 2), 2);
    }

    /** The rule for a gift whose least, or whose most, is 500. */
    private static long byWorth(String atom) {
        GiftRegister r = made("pf");
        law(r, 0, "tell if " + atom + ";");
        boolean isLeast = atom.startsWith("least");
        r.gift(1, 0, 0, 0, false, isLeast ? 500 : 0, isLeast ? 1000000 : 500);
        return r.judged(0, 0, 1);
    }

    private static void judgedBack() {
        sentence("back: it was given BACK on a day up to that on which it would be due by that tell");
        GiftRegister r = made("pf");
        law(r, 0, "tell within 5 if back;");
        for (int g = 0; g < 5; g++) {
            r.gift(1, 0, 0, 10, false, 1, 1);
        }
        is("not given back", r.judged(0, 0, 1), -1);
        int[] days = {10, 14, 15, 16, 9999};
        for (int g = 0; g < 5; g++) {
            r.back(g, days[g]);
            is("on day " + days[g], r.judged(g, 0, 1), days[g] <= 15 ? 0 : -1);
        }
        law(r, 0, "tell within 0 if back;tell within 4 if back;tell if not back;tell within 999 if back;");
        int[] rules = {0, 1, 3, 3, 2};
        int[] due = {10, 14, 1009, 1009, 40};
        for (int g = 0; g < 5; g++) {
            is("by each tell its own, day " + days[g], r.judged(g, 0, 1), rules[g]);
            is("due", r.judged(g, 0, 2), due[g]);
        }
        GiftRegister s = made("pf");
        law(s, 0, "tell within 999 if back;");
        s.gift(1, 0, 0, 9999, false, 1, 1);
        s.back(0, 9999);
        is("on the last day", s.judged(0, 0, 2), 10998);
        sentence("back, AS OF t");
        GiftRegister t = made("pf");
        law(t, 0, "tell if back;");
        t.gift(1, 0, 0, 0, false, 1, 1);
        t.next(5);
        t.back(0, 1);
        is("as of the day ahead", t.judged(0, 4, 1), -1);
        is("as of the day", t.judged(0, 5, 1), 0);
    }

    private static void sumAndCount() {
        sentence("sum, count: of all GIFTS, this one, too");
        GiftRegister r = made("pppfff");
        r.gift(3, 0, 0, 100, false, 5, 9);
        is("sum", r.judged(0, 0, 7), 5);
        is("count", r.judged(0, 0, 8), 1);
        r.gift(3, 0, 0, 100, false, 0, 0);
        is("one of nothing: sum", r.judged(0, 0, 7), 5);
        is("one of nothing: count", r.judged(0, 0, 8), 2);
        is("the same for the other one", r.judged(1, 0, 8), 2);

        sentence("to p or to people of a DEGREE to p of kin's NUMBER at most");
        r.kin(0, 1, 100, 101);
        r.kin(1, 2, 100, 101);
        r.gift(3, 1, 0, 100, false, 1, 1);
        r.gift(3, 2, 0, 100, false, 1, 1);
        is("to p and degree 1", r.judged(0, 0, 8), 3);
        is("from between", r.judged(2, 0, 8), 4);
        law(r, 0, "kin 0;");
        is("to p alone", r.judged(0, 0, 8), 2);
        law(r, 0, "kin 2;");
        is("to p and degree 2", r.judged(0, 0, 8), 4);
        r.gift(3, 0, 0, 101, false, 1, 1);
        is("degrees on the day alone", r.judged(4, 0, 8), 3);

        sentence("whose GIVER is of one GROUP with g's (all on day d)");
        GiftRegister s = made("pfff");
        s.owns(1, 2, 5001, 100, 101);
        s.gift(1, 0, 0, 100, false, 1, 1);
        s.gift(2, 0, 0, 99, false, 10, 10);
        s.gift(3, 0, 0, 99, false, 100, 100);
        is("of the group on day d, though not on its own", s.judged(0, 0, 7), 11);
        is("not of the group on its own day", s.judged(1, 0, 7), 10);
        s.gift(1, 0, 0, 101, false, 1000, 1000);
        is("no more of the group", s.judged(3, 0, 7), 1001);

        sentence("that were not given BACK on d or ahead");
        GiftRegister t = made("pf");
        t.gift(1, 0, 0, 100, false, 1, 1);
        for (int day : new int[] {98, 99, 100, 100, 100}) {
            t.gift(1, 0, 0, day, false, 10, 10);
        }
        is("none back", t.judged(0, 0, 8), 6);
        t.back(1, 99);
        is("ahead of d", t.judged(0, 0, 8), 5);
        t.back(2, 100);
        is("on d", t.judged(0, 0, 8), 4);
        t.back(3, 101);
        is("behind d", t.judged(0, 0, 8), 4);
        t.back(4, 100);
        is("of d, on d", t.judged(0, 0, 8), 3);
        t.back(0, 101);
        is("itself, behind d", t.judged(0, 0, 7), 21);
        is("for one ahead of it", t.judged(1, 0, 8), 1);
        t.gift(1, 0, 0, 99, false, 7, 7);
        t.next(3);
        t.back(6, 99);
        is("told later: as of then", t.judged(0, 3, 8), 3);
        is("told later: ahead", t.judged(0, 2, 8), 4);

        sentence("sum, count with SIGN NUMBER");
        GiftRegister u = made("pf");
        law(u, 0, "tell within 1 if sum<300;tell within 2 if sum=300;tell within 3 if count>3;tell within 4 if sum>300;");
        int[] due = {11, 11, 12, 13, 13};
        for (int g = 0; g < 5; g++) {
            u.gift(1, 0, 0, 10, false, 100, 1000);
            is("the latest of " + (g + 1), u.judged(g, 0, 2), due[g]);
        }
        GiftRegister v = made("pf");
        for (int g = 0; g < 120; g++) {
            v.gift(1, 0, 0, 10, false, 1000000, 1000000);
        }
        law(v, 0, "tell if sum>9999999 and count=120;");
        is("the greatest sum", v.judged(0, 0, 7), 120000000);
        is("over the greatest number", v.judged(119, 0, 1), 0);
        v.tell(7);
        v.tell(8);
        is("those told", v.asked(0, 0, 4), 2000000);
    }

    private static void mustBeTold() {
        sentence("It must be told, if the COND of a tell holds: the first such RULE; due on day d and its within");
        GiftRegister r = made("pf");
        law(r, 0, "sit if kin;tell within 9 if meal;kin 2;tell within 8 if gift or share;tell within 7 if gift;may if kin;");
        for (int kind = 0; kind < 4; kind++) {
            r.gift(1, 0, kind, 100, false, 1, 1);
        }
        int[] rules = {1, 0, -1, 1};
        int[] due = {108, 109, -1, 108};
        for (int g = 0; g < 4; g++) {
            is("rule of kind " + g, r.judged(g, 0, 1), rules[g]);
            is("due", r.judged(g, 0, 2), due[g]);
        }

        sentence("its state: told up to the day when due, behind it; not told, t not behind it, behind it");
        GiftRegister s = made("pf");
        law(s, 0, "tell within 10 if gift;");
        for (int g = 0; g < 4; g++) {
            s.gift(1, 0, g == 3 ? 1 : 0, 20, false, 1, 1);
        }
        is("not told, long ahead", s.judged(0, 0, 0), 3);
        is("not told, the day when due", s.judged(0, 30, 0), 3);
        is("not told, the day behind", s.judged(0, 31, 0), 4);
        is("not told, far behind", s.judged(0, MAX, 0), 4);
        s.next(29);
        s.tell(0);
        s.next(1);
        s.tell(1);
        s.next(1);
        s.tell(2);
        s.tell(3);
        is("told ahead", s.judged(0, 31, 0), 1);
        is("told on the day when due", s.judged(1, 31, 0), 1);
        is("told the day behind", s.judged(2, 31, 0), 2);
        is("need not, though told", s.judged(3, 31, 0), 0);
        is("told on the day when due, as of it", s.judged(1, 30, 0), 1);
        is("told the day behind, as of the day when due", s.judged(2, 30, 0), 3);
        is("told the day behind, as of far behind", s.judged(2, MAX, 0), 2);
        is("need not, far behind", s.judged(3, MAX, 0), 0);
        GiftRegister t = made("pf");
        law(t, 0, "tell within 0 if gift;");
        t.gift(1, 0, 0, 5, false, 1, 1);
        t.next(9);
        t.gift(1, 0, 0, 5, false, 1, 1);
        is("not told ahead of its own day", t.judged(0, 0, 0), 3);
        is("known when it was due already", t.judged(1, 9, 0), 4);
        t.tell(1);
        is("told then", t.judged(1, 9, 0), 2);
    }

    // ---------------------------------------------------------------- the document: matters

    private static void matterKinAndPost() {
        sentence("MATTER, kin: DEGREE of p and f (a person), or the HEAD of f (a person), is kin's NUMBER at most, 0, too");
        GiftRegister r = made("ppppff");
        r.kin(0, 1, 0, 10);
        r.kin(1, 2, 0, -1);
        r.owns(0, 4, 5001, 0, 10);
        r.owns(3, 5, 5000, 0, -1);
        law(r, 0, "sit if kin;kin 1;");
        r.matter(0, 9);
        r.matter(4, 9);
        r.matter(0, 10);
        r.matter(4, 10);
        r.matter(5, 9);
        int[][] due = {{2, 2, 0, 0}, {2, 2, 0, 0}, {2, 0, 0, 0}, {0, 0, 0, 0}, {0, 0, 0, 0}};
        for (int m = 0; m < due.length; m++) {
            for (int p = 0; p < 4; p++) {
                is("matter " + m + ", person " + p, r.sits(m, p, 0), due[m][p]);
            }
        }
        law(r, 0, "sit if kin;kin 0;");
        is("0, too: about oneself", r.sits(0, 0, 0), 2);
        is("0, too: the head oneself", r.sits(1, 0, 0), 2);
        is("degree 1, at most 0", r.sits(0, 1, 0), 0);
        law(r, 0, "sit if kin;kin 2;");
        is("degree 2, at most 2", r.sits(1, 2, 0), 2);
        is("none, at most 2", r.sits(1, 3, 0), 0);
        GiftRegister all = made("ppf");
        law(all, 0, "sit if kin;kin 4;");
        all.matter(0, 0);
        is("no kin at all, at most 4", all.sits(0, 1, 0), 0);

        sentence("post: p has a POST on d, or had one that ended no more than old days ahead, at a PARTY of f's GROUP");
        GiftRegister s = made("ppffff");
        s.owns(1, 2, 6000, 0, 101);
        s.owns(2, 3, 6000, 0, 101);
        s.owns(1, 4, 6000, 0, -1);
        law(s, 0, "sit if post;old 10;");
        s.post(0, 3, 100, 100);
        for (int f = 1; f <= 5; f++) {
            s.matter(f, 100);
            is("of the GROUP: party " + f, s.sits(f - 1, 0, 0), f <= 4 ? 2 : 0);
        }
        s.matter(2, 101);
        s.matter(3, 101);
        is("of the GROUP no more on the day", s.sits(5, 0, 0), 0);
        is("the firm itself", s.sits(6, 0, 0), 2);
        s.matter(3, 110);
        s.matter(3, 111);
        is("ended 10 days ahead", s.sits(7, 0, 0), 2);
        is("ended 11 days ahead", s.sits(8, 0, 0), 0);
        is("another one's POST", s.sits(6, 1, 0), 0);
        s.post(0, 3, 112, -1);
        is("one that begins later", s.sits(8, 0, 0), 0);
        s.post(0, 3, 50, -1);
        is("one on and on", s.sits(8, 0, 0), 2);
    }

    private static void matterParts() {
        sentence("part, kinpart: PART of p in f, and the greatest one of others (both times 10000, cut)");
        GiftRegister r = made("pppff");
        r.kin(0, 1, 0, -1);
        r.kin(0, 2, 0, -1);
        r.owns(0, 3, 9999, 0, -1);
        r.owns(3, 4, 9999, 0, -1);
        r.matter(4, 0);
        law(r, 0, "sit if part=9998;may if part=0 and kinpart=9998;");
        is("9998.0001, cut", r.sits(0, 0, 0), 2);
        is("that of kin, cut", r.sits(0, 1, 0), 1);
        GiftRegister s = made("pfff");
        s.owns(0, 1, 1, 0, -1);
        s.owns(1, 2, 9999, 0, -1);
        s.owns(0, 2, 1, 10, -1);
        s.matter(2, 9);
        s.matter(2, 10);
        s.matter(3, 10);
        law(s, 0, "sit if part>0;may if not part>0 and not part<0 and part=0;");
        is("0.9999, cut", s.sits(0, 0, 0), 1);
        is("1.9999", s.sits(1, 0, 0), 2);
        is("none", s.sits(2, 0, 0), 1);
        law(s, 0, "sit if part=1;");
        is("1.9999, cut", s.sits(1, 0, 0), 2);

        sentence("(.. cut), one 10000th of a 10000th of a 10000th of a 10000th short of the whole");
        GiftRegister whole = made("ppffff");
        whole.kin(0, 1, 0, -1);
        for (int f = 2; f < 6; f++) {
            whole.owns(0, f, 9999, 0, -1);
        }
        for (int f = 3; f < 6; f++) {
            whole.owns(f, f - 1, 1, 0, -1);
        }
        is("PART", whole.part(0, 2, 0, 0), 10000 * ONE - 1);
        whole.matter(2, 0);
        law(whole, 0, "sit if part=9999;may if kinpart=9999;");
        is("cut", whole.sits(0, 0, 0), 2);
        is("that of kin, cut", whole.sits(0, 1, 0), 1);
        is("the greatest asked for, cut", whole.asked(0, 0, 5), 9999);
        GiftRegister one = made("pf");
        one.owns(0, 1, 10000, 0, -1);
        one.matter(1, 0);
        law(one, 0, "sit if part=10000;");
        is("the whole", one.sits(0, 0, 0), 2);
        is("the whole asked for", one.asked(0, 0, 5), 10000);

        sentence("(.. p is f: 10000)");
        GiftRegister self = made("ppf");
        self.matter(0, 0);
        law(self, 0, "sit if part=10000;may if part=0;");
        is("p is f", self.sits(0, 0, 0), 2);
        is("p is not f", self.sits(0, 1, 0), 1);
        law(self, 0, "sit if part>9999;may if part<1;");
        is("p is f", self.sits(0, 0, 0), 2);
        is("p is not f", self.sits(0, 1, 0), 1);
        is("as of -1 there is no law", self.sits(0, 0, -1), 0);

        sentence("the greatest one of others of a DEGREE of kin's NUMBER at most");
        GiftRegister k = made("ppppf");
        k.kin(0, 1, 0, -1);
        k.kin(1, 2, 0, -1);
        k.kin(0, 3, 0, -1);
        k.owns(0, 4, 4000, 0, -1);
        k.owns(1, 4, 100, 0, -1);
        k.owns(2, 4, 300, 0, -1);
        k.owns(3, 4, 200, 0, -1);
        k.matter(4, 0);
        int[][] due = {{0, 0, 0, 0}, {200, 4000, 100, 4000}, {300, 4000, 4000, 4000}, {300, 4000, 4000, 4000}};
        int[] numbers = {0, 1, 2, 4};
        for (int i = 0; i < 4; i++) {
            law(k, 0, lawOfParts(due[i], numbers[i]));
            for (int p = 0; p < 4; p++) {
                is("kin " + numbers[i] + ", person " + p, k.sits(0, p, 0), 2);
            }
        }
    }

    /** A law by which each person whose own part is as told must sit out if the greatest part of kin is as due. */
    private static String lawOfParts(int[] due, int kin) {
        int[] own = {4000, 100, 300, 200};
        StringBuilder text = new StringBuilder("kin " + kin + ";sit if ");
        for (int p = 0; p < 4; p++) {
            text.append(p == 0 ? "" : " or ").append("part=").append(own[p]).append(" and kinpart=").append(due[p]);
        }
        return text.append(";").toString();
    }

    private static void matterSums() {
        sentence("sum, count as above with d for the day and f for the GIVER");
        GiftRegister r = made("pppfff");
        r.kin(0, 1, 0, -1);
        r.owns(2, 3, 6000, 0, -1);
        r.owns(2, 4, 6000, 0, 200);
        law(r, 0, "year 10;sit if sum=6;may if count=0;");
        r.gift(3, 0, 0, 91, false, 1, 9);
        r.gift(4, 1, 0, 100, false, 2, 9);
        r.gift(2, 0, 0, 100, false, 3, 9);
        r.gift(5, 0, 0, 100, false, 50, 90);
        r.gift(3, 0, 0, 101, false, 50, 90);
        r.gift(3, 0, 0, 90, false, 50, 90);
        r.matter(3, 100);
        r.matter(2, 100);
        r.matter(5, 99);
        r.matter(5, 100);
        is("about a firm of the group", r.sits(0, 0, 0), 2);
        is("for kin", r.sits(0, 1, 0), 2);
        is("for another person", r.sits(0, 2, 0), 1);
        is("about the head, a person", r.sits(1, 0, 0), 2);
        is("about another firm, the day ahead", r.sits(2, 0, 0), 1);
        is("on the day", r.sits(3, 0, 0), 0);
        r.back(1, 101);
        is("given back behind the day", r.sits(0, 0, 0), 2);
        r.back(2, 100);
        is("given back on the day", r.sits(0, 0, 0), 0);
        law(r, 0, "year 10;sit if count=2;may if sum=3;");
        is("count", r.sits(0, 0, 0), 2);
        law(r, 0, "year 9;sit if count=2;may if sum=2;");
        is("a shorter year", r.sits(0, 0, 0), 1);
        law(r, 0, "kin 0;year 10;sit if count=2;may if sum=1;");
        is("no kin", r.sits(0, 0, 0), 1);
    }

    private static void sitOrMay() {
        sentence("p must sit out, if the COND of sit holds; else may, if that of may holds");
        String[] texts = {"", "sit if kin;", "may if kin;", "sit if kin;may if kin;", "may if kin;sit if not kin;", "sit if not kin;may if not kin;"};
        int[] due = {0, 2, 1, 2, 1, 0};
        int[] other = {0, 0, 0, 0, 2, 2};
        for (int i = 0; i < texts.length; i++) {
            GiftRegister r = made("ppf");
            r.matter(0, 5);
            law(r, 5, texts[i]);
            is(texts[i] + " of kin", r.sits(0, 0, 0), due[i]);
            is(texts[i] + " of no kin", r.sits(0, 1, 0), other[i]);
            is(texts[i] + " as of -1", r.sits(0, 0, -1), 0);
        }

        sentence("MATTERS (60 at most)");
        GiftRegister full = made("pf");
        law(full, 9999, "sit if kin;");
        for (int m = 0; m < 59; m++) {
            is("matter " + m, full.matter(1, m), m);
        }
        is("the 60th", full.matter(0, 9999), 59);
        is("it counts", full.sits(59, 0, 0), 2);
        refused(full, "the 61st", -1, () -> full.matter(1, 0));
        is("it is not there", full.sits(60, 0, 0), -1);
        is("nor has it a quorum", full.quorum(60, 0), -100);
    }

    private static void council() {
        sentence("THE COUNCIL: 12 MEMBERS at most");
        GiftRegister r = made("p".repeat(13) + "f");
        r.matter(13, 0);
        for (int p = 0; p < 12; p++) {
            is("quorum ahead of member " + p, r.quorum(0, 0), p);
            is("member " + p, r.member(p), p + 1);
            refused(r, "the first one again", -1, () -> r.member(0));
        }
        is("the twelfth votes", r.vote(0, 11, true), 0);
        GiftRegister full = made("p".repeat(13) + "f");
        full.matter(13, 0);
        for (int p = 12; p > 0; p--) {
            full.member(p);
        }
        refused(full, "the thirteenth", -1, () -> full.member(0));
        is("it does not count", full.quorum(0, 0), 12);
        refused(full, "nor vote", -1, () -> full.vote(0, 0, true));

        sentence("QUORUM: MEMBERS who need not, or may, sit out, less quorum's NUMBER");
        GiftRegister q = made("pppf");
        q.kin(0, 1, 0, -1);
        q.matter(0, 0);
        q.member(0);
        q.member(2);
        int[] due = {2, 2, 1, 0, -10, 0};
        String[] texts = {"", "may if kin;", "sit if kin;", "sit if kin;may if not kin;quorum 1;", "quorum 12;", "sit if kin or not kin;quorum 0;"};
        for (int i = 0; i < texts.length; i++) {
            law(q, 0, texts[i]);
            is(texts[i], q.quorum(0, 0), due[i]);
        }
        GiftRegister none = made("pf");
        none.matter(0, 0);
        is("no MEMBERS", none.quorum(0, 0), 0);
        law(none, 0, "quorum 12;");
        is("no MEMBERS, 12 wanted", none.quorum(0, 0), -12);

        sentence("MEMBERS and MATTERS always");
        GiftRegister late = made("ppf");
        late.next(9);
        late.member(0);
        late.matter(2, 9999);
        is("a MATTER as of -1", late.sits(0, 1, -1), 0);
        is("a MEMBER as of -1", late.quorum(0, -1), 1);
        is("as of day 0", late.quorum(0, 0), 1);
        is("as of the least", late.quorum(0, MIN), 1);
    }

    // ---------------------------------------------------------------- the document: lists

    /** Whether an entry of the name by the giver fits a gift of 500 to 600 from 2 to 0 on day 100; 1 has 6000 of 2 then. */
    private static void fits(String what, String name, int giver, int day, int worth, int due) {
        GiftRegister r = made("pfff");
        r.owns(1, 2, 6000, 90, 100);
        r.gift(2, 0, 0, 100, false, 500, 600);
        entry(r, name, giver, day, worth);
        is(what + ", not TOLD", r.joined(0), 0);
        r.tell(0);
        is(what, r.joined(0), due);
        is(what + ": which", r.entered(0, 0, 0), due - 1);
    }

    private static void fitting() {
        sentence("ENTRIES (100 at most)");
        GiftRegister full = made("pf");
        full.gift(1, 0, 0, 50, false, 7, 7);
        full.tell(0);
        for (int e = 0; e < 99; e++) {
            is("entry " + e, entry(full, "x", 1, 0, 0), e);
        }
        refusedText(full, "no NAME", "", -1, () -> full.entry(1, 50, 7));
        is("the 100th", entry(full, "naa", 1, 50, 7), 99);
        is("it is joined", full.joined(0), 1);
        is("it is joined", full.entered(99, 0, 0), 0);

        GiftRegister more = made("pf");
        more.gift(1, 0, 0, 50, false, 7, 7);
        more.tell(0);
        for (int e = 0; e < 100; e++) {
            more.feed('x' << 24, 0, 0, 0, 0);
            more.end(1);
            more.entry(1, 0, 0);
        }
        refusedText(more, "the 101st", "naa", -1, () -> more.entry(1, 50, 7));
        is("it is not joined", more.joined(0), 0);
        is("no such entry", guarded(() -> more.entered(100, 0, 0)), THROWN);

        sentence("One FITS a GIFT that was TOLD: the GIVER is of one GROUP with that of the ENTRY (on the ENTRY's day)");
        fits("the giver itself", "naa", 2, 100, 500, 1);
        fits("the head on the entry's day", "naa", 1, 99, 500, 1);
        fits("the head no more on the entry's day", "naa", 1, 100, 500, 0);
        fits("another giver", "naa", 3, 99, 500, 0);
        fits("the one who has it", "naa", 0, 100, 500, 0);
        sentence("FITS: the one who has it has that NAME");
        fits("a giver's name", "nab", 2, 100, 500, 0);
        fits("a shorter name", "na", 2, 100, 500, 0);
        fits("a longer name", "naaa", 2, 100, 500, 0);
        sentence("FITS: the days differ by 3 at most");
        for (int apart = -5; apart <= 5; apart++) {
            fits(apart + " days apart", "naa", 2, 100 + apart, 500, apart >= -3 && apart <= 3 ? 1 : 0);
        }
        fits("day 0", "naa", 2, 0, 500, 0);
        fits("day 9999", "naa", 2, 9999, 500, 0);
        sentence("FITS: the worth is from least to most");
        int[] worths = {0, 499, 500, 501, 599, 600, 601, 1000000};
        for (int worth : worths) {
            fits("worth " + worth, "naa", 2, 100, worth, worth >= 500 && worth <= 600 ? 1 : 0);
        }

        sentence("an ENTRY: a worth that is 0 to 1000000");
        GiftRegister r = made("pf");
        for (int bad : NO_WORTHS) {
            refusedText(r, "worth " + bad, "naa", -1, () -> r.entry(1, 0, bad));
        }
        for (int nobody : new int[] {MIN, -1, 2, 60, MAX}) {
            refusedText(r, "giver " + nobody, "naa", -1, () -> r.entry(nobody, 0, 0));
        }
        r.gift(1, 0, 0, 0, false, 0, 0);
        r.gift(1, 0, 0, 9999, false, 1000000, 1000000);
        r.tell(0);
        r.tell(1);
        is("worth 0, day 0", entry(r, "naa", 1, 0, 0), 0);
        is("worth 1000000, day 9999", entry(r, "naa", 1, 9999, 1000000), 1);
        is("both are joined", r.joined(0), 2);
        is("a person gives", entry(r, "naa", 0, 0, 0), 2);
        joinedAsOf();
    }

    private static void joinedAsOf() {
        sentence("JOINED AS OF t");
        GiftRegister r = made("pf");
        r.next(1);
        r.gift(1, 0, 0, 50, false, 5, 5);
        r.next(1);
        r.tell(0);
        r.next(1);
        entry(r, "naa", 1, 50, 6);
        entry(r, "naa", 1, 50, 5);
        r.next(1);
        r.worth(0, 6, 6);
        r.next(1);
        r.back(0, 50);
        int[] due = {0, 0, 0, 1, 1, 1};
        for (int t = 0; t <= 5; t++) {
            is("as of " + t, r.joined(t), due[t]);
        }
        is("by its first worth", r.entered(1, 3, 0), 0);
        is("a gap then", r.entered(0, 3, 0), -1);
        is("by its latest worth", r.entered(0, 4, 0), 0);
        is("given back, but joined", r.entered(0, 5, 0), 0);
        is("a gap then", r.entered(1, 5, 0), -1);
        is("as of -1", r.joined(-1), 0);
        is("as of the least", r.joined(MIN), 0);
        is("as of the greatest", r.joined(MAX), 1);
        is("no ENTRIES", made("p").joined(0), 0);
        is("nobody at all", new GiftRegister().joined(0), 0);
        GiftRegister late = made("pf");
        late.gift(1, 0, 0, 50, false, 5, 5);
        late.tell(0);
        entry(late, "naa", 1, 50, 5);
        late.next(1);
        late.owns(0, 1, 6000, 0, -1);
        is("a GROUP, as of then", late.joined(1), 1);
        late.next(1);
        late.gift(0, party(late, "nzz", 0), 0, 50, false, 9, 9);
        late.tell(1);
        entry(late, "nzz", 1, 50, 9);
        is("of one GROUP as of then", late.entered(1, 2, 0), 1);
    }

    /** Gifts from 1 to 0, told: their days, least and most; entries by 1: their days and worths. */
    private static GiftRegister lists(int[][] gifts, int[][] entries) {
        GiftRegister r = made("pf");
        for (int g = 0; g < gifts.length; g++) {
            r.gift(1, 0, 0, gifts[g][0], false, gifts[g][1], gifts[g][2]);
            r.tell(g);
        }
        for (int[] one : entries) {
            entry(r, "naa", 1, one[0], one[1]);
        }
        return r;
    }

    private static void joinedIs(String what, int[][] gifts, int[][] entries, int... due) {
        GiftRegister r = lists(gifts, entries);
        int many = 0;
        for (int e = due.length - 1; e >= 0; e--) {
            is(what + ": entry " + e, r.entered(e, 0, 0), due[e]);
            many += due[e] >= 0 ? 1 : 0;
        }
        is(what, r.joined(0), many);
    }

    private static void joiningTheMost() {
        sentence("JOINED: each with one at most, so that the most are");
        int[][] one = {{50, 1, 9}};
        joinedIs("one and none", one, new int[][] {});
        joinedIs("none and one", new int[][] {}, new int[][] {{50, 5}}, -1);
        joinedIs("one and one", one, new int[][] {{50, 5}}, 0);
        joinedIs("one gift, three entries", one, new int[][] {{50, 5}, {50, 6}, {50, 7}}, 0, -1, -1);
        joinedIs("three gifts, one entry", new int[][] {{50, 1, 9}, {50, 1, 9}, {50, 1, 9}}, new int[][] {{50, 5}}, 0);
        joinedIs("the first yields the least gift", new int[][] {{50, 1, 9}, {50, 1, 5}}, new int[][] {{50, 5}, {50, 9}}, 1, 0);
        joinedIs("two yield", new int[][] {{50, 1, 9}, {50, 1, 6}, {50, 1, 3}}, new int[][] {{50, 3}, {50, 6}, {50, 9}}, 2, 1, 0);
        joinedIs("the last needs all ahead of it to yield", new int[][] {{50, 1, 2}, {50, 2, 3}, {50, 3, 4}, {50, 1, 1}},
            new int[][] {{50, 1}, {50, 2}, {50, 3}, {50, 4}}, 3, 0, 1, 2);
    }

    private static void joiningByRising() {
        sentence("by rising ENTRIES each with the least GIFT that may be");
        joinedIs("each the least", new int[][] {{50, 1, 9}, {50, 1, 9}, {50, 1, 9}}, new int[][] {{50, 5}, {50, 6}, {50, 7}}, 0, 1, 2);
        joinedIs("two gifts in vain, then the third", new int[][] {{50, 1, 2}, {50, 2, 3}, {50, 2, 2}},
            new int[][] {{50, 2}, {50, 1}, {50, 3}}, 2, 0, 1);
        joinedIs("what one tries in vain is there for the next", new int[][] {{50, 1, 2}, {50, 2, 2}, {50, 1, 1}},
            new int[][] {{50, 1}, {50, 2}, {50, 2}}, 2, 0, 1);
        joinedIs("the first keeps the least, the others move on",
            new int[][] {{50, 1, 2}, {50, 1, 1}, {53, 2, 2}, {50, 2, 3}, {50, 3, 4}, {50, 4, 4}},
            new int[][] {{50, 1}, {50, 2}, {50, 3}, {50, 4}, {56, 2}}, 0, 3, 4, 5, 2);
        joinedIs("the second keeps the least, too", new int[][] {{50, 9, 9}, {50, 1, 2}, {50, 1, 1}, {53, 2, 2}, {50, 2, 3}, {50, 3, 4}, {50, 4, 4}},
            new int[][] {{50, 9}, {50, 1}, {50, 2}, {50, 3}, {50, 4}, {56, 2}}, 0, 1, 4, 5, 6, 3);

        sentence("or with none only if it must");
        joinedIs("the second must", new int[][] {{50, 1, 2}, {50, 2, 3}}, new int[][] {{50, 2}, {50, 1}, {50, 3}}, 0, -1, 1);
        joinedIs("the third must", new int[][] {{50, 1, 2}, {50, 2, 3}}, new int[][] {{50, 1}, {50, 3}, {50, 2}}, 0, 1, -1);
        joinedIs("the last must", new int[][] {{50, 1, 9}, {50, 1, 9}}, new int[][] {{50, 5}, {50, 5}, {50, 5}}, 0, 1, -1);
        joinedIs("the first fits none", new int[][] {{50, 1, 2}}, new int[][] {{50, 3}, {50, 2}}, -1, 0);
        joinedIs("the first need not, though the second could", new int[][] {{50, 1, 9}}, new int[][] {{50, 9}, {50, 1}}, 0, -1);

        sentence("by rising ENTRIES each with the least GIFT: many of both");
        int[][] gifts = new int[100][];
        int[][] entries = new int[60][];
        int[] due = new int[60];
        for (int g = 0; g < 100; g++) {
            gifts[g] = new int[] {50, g < 40 ? 900 : 0, g < 40 ? 900 : 99 - g};
        }
        for (int e = 0; e < 60; e++) {
            entries[e] = new int[] {50, 59 - e};
            due[e] = 40 + e;
        }
        GiftRegister many = new GiftRegister();
        many.feed('p' << 24, 0, 0, 0, 0);
        many.end(1);
        many.party(0);
        many.feed('f' << 24, 0, 0, 0, 0);
        many.end(1);
        many.party(1);
        for (int g = 0; g < 100; g++) {
            many.gift(1, 0, 0, 50, false, gifts[g][1], gifts[g][2]);
            many.tell(g);
        }
        for (int[] one : entries) {
            many.feed('p' << 24, 0, 0, 0, 0);
            many.end(1);
            many.entry(1, 50, one[1]);
        }
        is("sixty", many.joined(0), 60);
        for (int e = 0; e < 60; e++) {
            is("entry " + e, many.entered(e, 0, 0), due[e]);
        }
    }

    private static void doubt() {
        sentence("An ENTRY (JOINED or not) is in DOUBT, if not just one person has its NAME");
        GiftRegister r = made("pff");
        party(r, "two", 0);
        party(r, "two", 0);
        party(r, "firm", 1);
        party(r, "both", 0);
        party(r, "both", 2);
        String[] names = {"nobody", "naa", "two", "firm", "both", "nab"};
        int[] people = {0, 1, 2, 0, 1, 0};
        for (int e = 0; e < names.length; e++) {
            entry(r, names[e], 1, 0, 5);
            is(names[e], r.entered(e, 0, 2), people[e]);
            is(names[e] + " in doubt", r.entered(e, 0, 1), people[e] == 1 ? 0 : 1);
        }
        r.gift(1, 3, 0, 0, false, 5, 5);
        r.tell(0);
        is("joined", r.entered(2, 0, 0), 0);
        is("still in doubt", r.entered(2, 0, 1), 1);
        party(r, "naa", 0);
        is("another one of the name", r.entered(1, 0, 1), 1);
        is("how many", r.entered(1, 0, 2), 2);
        party(r, "nobody", 0);
        is("one of the name", r.entered(0, 0, 1), 0);
    }

    // ---------------------------------------------------------------- the document: votes

    private static void votesOnce() {
        sentence("VOTES (200 at most)");
        GiftRegister full = made("p".repeat(10) + "f");
        for (int p = 0; p < 10; p++) {
            full.member(p);
        }
        for (int m = 0; m < 21; m++) {
            full.matter(10, m);
        }
        for (int i = 0; i < 199; i++) {
            is("vote " + i, full.vote(i / 10, i % 10, false), i);
        }
        is("none for", full.links(0, 1), 0);
        is("the 200th", full.vote(19, 9, true), 199);
        is("it counts", full.links(0, 1), 1);
        refused(full, "the 201st", -1, () -> full.vote(20, 0, true));
        is("it does not count", full.links(0, 0), 200);

        sentence("a MEMBER's in a MATTER, for or against, once");
        GiftRegister r = made("pppf");
        refused(r, "no MATTER", -1, () -> r.vote(0, 0, true));
        r.matter(3, 0);
        r.matter(3, 0);
        refused(r, "no MEMBERS", -1, () -> r.vote(0, 0, true));
        r.member(0);
        r.member(1);
        for (int m : new int[] {MIN, -1, 2, 60, MAX}) {
            refused(r, "matter " + m, -1, () -> r.vote(m, 0, true));
        }
        for (int p : new int[] {MIN, -1, 2, 3, 4, 60, MAX}) {
            is("person " + p, r.vote(0, p, true), -1);
        }
        is("for", r.vote(0, 0, true), 0);
        refused(r, "for again", -1, () -> r.vote(0, 0, true));
        refused(r, "against then", -1, () -> r.vote(0, 0, false));
        is("against, by another one", r.vote(0, 1, false), 1);
        is("in another matter", r.vote(1, 0, false), 2);
        is("all", r.links(0, 0), 3);
        is("for", r.links(0, 1), 1);
    }

    /** Whether one gift from 3 to 0, of a day and given back on another (or not), makes a vote of day 100 warm. */
    private static void warm(String what, int giver, int to, int day, int back, int due) {
        GiftRegister r = made("ppfff");
        r.owns(2, 3, 6000, 100, 101);
        r.member(0);
        r.matter(2, 100);
        r.vote(0, 0, true);
        r.gift(giver, to, 3, day, true, 0, 0);
        if (back >= 0) {
            r.back(0, back);
        }
        is(what, r.links(0, 2), due);
        is(what + ", for", r.links(0, 3), due);
        is(what + ", chance", r.chance(0, 0) * 10 + r.chance(0, 1), 11);
    }

    private static void warmEdges() {
        sentence("WARM: a GIFT that was not given BACK ahead of the MATTER's day");
        warm("not back", 2, 0, 90, -1, 1);
        warm("back the day ahead", 2, 0, 90, 99, 0);
        warm("back on its own day", 2, 0, 90, 90, 0);
        warm("back on the day", 2, 0, 90, 100, 1);
        warm("back behind the day", 2, 0, 90, 101, 1);
        sentence("WARM: came to the MEMBER on one of the link days up to it (its own, too)");
        warm("on the day", 2, 0, 100, -1, 1);
        warm("the day behind", 2, 0, 101, -1, 0);
        warm("89 days ahead", 2, 0, 11, -1, 1);
        warm("90 days ahead", 2, 0, 10, -1, 0);
        warm("to another one", 2, 1, 100, -1, 0);
        sentence("WARM: from a GIVER of one GROUP with the MATTER's PARTY (on its day)");
        warm("one of the group", 3, 0, 100, -1, 1);
        warm("one of the group on the MATTER's day, not on its own", 3, 0, 99, -1, 1);
        warm("one of another group", 4, 0, 100, -1, 0);
        warm("a person", 1, 0, 100, -1, 0);

        sentence("WARM, AS OF t");
        GiftRegister r = made("pf");
        r.member(0);
        r.matter(1, 5);
        r.vote(0, 0, true);
        r.next(1);
        r.gift(1, 0, 0, 5, false, 1, 1);
        r.gift(1, 0, 0, 4, false, 1, 1);
        r.next(1);
        law(r, 5, "link 1;");
        r.next(1);
        r.back(0, 5);
        r.next(1);
        r.back(1, 4);
        int[] due = {0, 1, 1, 1, 1};
        for (int t = 0; t < 5; t++) {
            is("as of " + t, r.links(t, 3), due[t]);
        }
        GiftRegister back = made("pf");
        back.member(0);
        back.matter(1, 5);
        back.vote(0, 0, true);
        back.gift(1, 0, 0, 4, false, 1, 1);
        back.next(3);
        back.back(0, 4);
        is("back, as of the day ahead of when it was told", back.links(2, 2), 1);
        is("back, as of then", back.links(3, 2), 0);
        GiftRegister s = made("pf");
        s.member(0);
        s.matter(1, 5);
        s.vote(0, 0, false);
        s.gift(1, 0, 0, 4, false, 1, 1);
        s.next(1);
        law(s, 5, "link 1;");
        s.next(1);
        law(s, 6, "link 9;");
        s.next(1);
        law(s, 4, "link 9;");
        int[] warm = {1, 0, 0, 0};
        for (int t = 0; t < 4; t++) {
            is("link of the LAW for the day, as of " + t, s.links(t, 2), warm[t]);
            is("against is no LINK", s.links(t, 3), 0);
        }
        sentence("links: NONE for another what");
        for (int what : new int[] {MIN, -1, 4, MAX}) {
            is("what " + what, s.links(0, what), -1);
        }
    }

    /** A council of 12 and matters about 12 on day 10; the first so many votes are for, those of the first members are warm. */
    private static GiftRegister voted(int votes, int isFor, int warmMembers) {
        GiftRegister r = made("p".repeat(12) + "f");
        for (int p = 0; p < 12; p++) {
            r.member(p);
        }
        for (int i = 0; i < votes; i++) {
            if (i % 12 == 0) {
                r.matter(12, 10);
            }
            r.vote(i / 12, i % 12, i < isFor);
        }
        for (int p = 0; p < warmMembers; p++) {
            r.gift(12, p, 0, 10, false, 1, 1);
        }
        return r;
    }

    private static void chanceIs(String what, GiftRegister r, long upper, long lower) {
        is(what + ": upper", guarded(() -> r.chance(0, 0)), upper);
        is(what + ": lower", guarded(() -> r.chance(0, 1)), lower);
    }

    private static void chanceEdges() {
        sentence("CHANCE: were as many VOTES for drawn alike likely among all: how likely as many LINKS or more would be");
        chanceIs("one for, one warm of one", voted(1, 1, 1), 1, 1);
        chanceIs("one against, warm", voted(1, 0, 1), 1, 1);
        chanceIs("one for, one warm of two", voted(2, 1, 1), 1, 2);
        chanceIs("one for, one warm of twelve", voted(12, 1, 1), 1, 12);
        chanceIs("eleven for, one warm of twelve", voted(12, 11, 1), 11, 12);
        chanceIs("all for, one warm", voted(12, 12, 1), 1, 1);
        chanceIs("all for, all warm", voted(12, 12, 12), 1, 1);
        chanceIs("none for, all warm", voted(12, 0, 12), 1, 1);
        chanceIs("three for, none warm", voted(12, 3, 0), 1, 1);
        // Of 12 votes 3 are drawn: 220 ways; 1 with all three of the warm ones.
        chanceIs("three for, these three warm", voted(12, 3, 3), 1, 220);
        // 5 warm, 3 for, all three warm: 10 of 220 ways.
        chanceIs("three for, five warm", voted(12, 3, 5), 1, 22);
        // 5 for, 3 warm, all three for: 9 * 8 / 2 = 36 of 792 ways.
        chanceIs("five for, three warm", voted(12, 5, 3), 1, 22);
        // 14 votes, the first member voted twice: 3 for, warm are votes 0 and 12; one link at least: (364 - 220) of 364 ways.
        chanceIs("one of two warm ones for", voted(14, 3, 1), 36, 91);
        GiftRegister low = made("ppppf");
        low.matter(4, 10);
        for (int p = 0; p < 4; p++) {
            low.member(p);
            low.vote(0, p, p < 2);
        }
        low.gift(4, 2, 0, 10, false, 1, 1);
        low.gift(4, 3, 0, 10, false, 1, 1);
        is("warm", low.links(0, 2), 2);
        is("no LINK", low.links(0, 3), 0);
        chanceIs("none or more", low, 1, 1);
        low.gift(4, 1, 0, 10, false, 1, 1);
        // 3 of 4 warm, 2 for, one of them warm: one or more of three are in each of the 6 drawings.
        chanceIs("one or more is sure", low, 1, 1);

        sentence("CHANCE: without VOTES 1 by 1");
        chanceIs("a new object", new GiftRegister(), 1, 1);
        chanceIs("members, but no votes", voted(0, 0, 3), 1, 1);
        GiftRegister later = made("pf");
        later.member(0);
        later.matter(1, 0);
        later.next(1);
        later.vote(0, 0, true);
        chanceIs("none KNOWN yet", later, 1, 1);
        is("as of -1", later.chance(-1, 0), 1);
    }

    private static void chanceLimits() {
        sentence("chance throws: more than 60 VOTES are KNOWN");
        GiftRegister r = voted(59, 30, 6);
        chanceIs("59", r, r.chance(0, 0), r.chance(0, 1));
        yes("59: a fraction", r.chance(0, 1) > r.chance(0, 0));
        is("the 60th", r.vote(4, 11, false), 59);
        yes("60: a fraction", r.chance(0, 1) > r.chance(0, 0));
        r.next(1);
        r.matter(12, 10);
        is("the 61st", r.vote(5, 0, true), 60);
        is("61 as of then", guarded(() -> r.chance(1, 0)), THROWN);
        is("61 as of then, lower", guarded(() -> r.chance(1, 1)), THROWN);
        yes("60 as of the day ahead", r.chance(0, 1) > 0);
        is("none as of -1", r.chance(-1, 1), 1);
        is("links are counted", r.links(1, 0), 61);

        sentence("chance: as a fraction without a divisor in common, of 60 VOTES");
        // 30 for of 60: 118264581564861424 ways; six members warm in each of five matters, these for: one way.
        GiftRegister half = made("p".repeat(12) + "f");
        for (int p = 0; p < 12; p++) {
            half.member(p);
        }
        for (int i = 0; i < 60; i++) {
            if (i % 12 == 0) {
                half.matter(12, 10);
            }
            half.vote(i / 12, i % 12, i % 12 < 6);
        }
        for (int p = 0; p < 6; p++) {
            half.gift(12, p, 0, 10, false, 1, 1);
        }
        is("warm", half.links(0, 2), 30);
        is("links", half.links(0, 3), 30);
        chanceIs("one way", half, 1, 118264581564861424L);
        for (int p = 6; p < 12; p++) {
            half.gift(12, p, 0, 10, false, 1, 1);
        }
        chanceIs("all are warm", half, 1, 1);
        chanceIs("sixty for", voted(60, 60, 6), 1, 1);
        chanceIs("sixty against", voted(60, 0, 6), 1, 1);
        chanceIs("one for of sixty, five warm", voted(60, 1, 1), 1, 12);

        sentence("chance throws: another what");
        GiftRegister few = voted(1, 1, 1);
        for (int what : new int[] {MIN, -1, 2, MAX}) {
            refused(few, "what " + what, THROWN, () -> few.chance(0, what));
        }
    }

    // ---------------------------------------------------------------- the promises: what no sentence above names

    private static void newObject() {
        sentence("No PARTIES, FACTS, LAWS, MATTERS; TODAY 0; an empty tape, OUT");
        GiftRegister r = new GiftRegister();
        for (int what = 0; what <= 12; what++) {
            is("count(" + what + ")", r.count(what), 0);
        }
        is("fault", r.fault(), 0);
        is("a name on the tape", r.party(0), -1);
        is("a text on the tape", r.law(0), 0);
        is("byte 0 of OUT", guarded(() -> r.octet(0)), THROWN);
        is("a gift", guarded(() -> r.judged(0, 0, 0)), THROWN);
        is("an entry", guarded(() -> r.entered(0, 0, 0)), THROWN);
        is("a party", r.head(0, 0, 0), -1);
        is("a person", r.asked(0, 0, 0), -1);
        is("a matter", r.quorum(0, 0), -100);
        is("sits", r.sits(0, 0, 0), -1);
        is("degree", r.degree(0, 0, 0, 0), -1);
        is("part", r.part(0, 0, 0, 0), -1);
        is("chain", r.chain(0, 0, 0, 0), -1);
        is("joined", r.joined(0), 0);
        is("links", r.links(0, 0), 0);
        no("worth", r.worth(0, 0, 0));
        no("back", r.back(0, 0));
        no("tell", r.tell(0));
        GiftRegister other = made("pf");
        other.next(7);
        is("another object", new GiftRegister().count(1), 0);
        is("its day", new GiftRegister().count(0), 0);
        is("NONE", GiftRegister.NONE, -1);
    }

    private static void feedEndNext() {
        sentence("feed: Twenty bytes come behind the tape, of each number the highest first");
        GiftRegister r = new GiftRegister();
        is("none yet", r.count(11), 0);
        is("twenty", r.feed(0x61626364, 0x65666768, 0x696a6b6c, MIN, MAX), 20);
        r.end(12);
        is("in order", r.party(0), 0);
        entry(r, "abcdefghijkl", 0, 0, 0);
        is("in order", r.entered(0, 0, 2), 1);
        is("behind what is there", put(r, "kin ").feed('1' << 24 | ';' << 16, 0, 0, 0, 0), 24);
        yes("cut", r.end(6));
        is("its text", r.law(0), 1);
        r.feed(0, 0, 0, 0, 'a');
        is("the last byte", r.law(0), -1);
        is("0 is no blank", r.fault(), 1);
        r.feed(0x20202020, 0x20202020, 0x20202020, 0x20202020, 0x20202061);
        is("the last byte", r.law(0), -20);
        r.feed(0x20202020, 0x20202020, 0x20202020, 0x20202020, 0xff202020);
        is("a byte of the highest bit", r.law(0), -17);

        sentence("feed: NONE, and none come, if it would have more than 540");
        for (int i = 1; i <= 27; i++) {
            is("feed " + i, r.feed(0x20202020, 0x20202020, 0x20202020, 0x20202020, 0x20202020), i * 20);
        }
        refused(r, "560", -1, () -> r.feed(1, 2, 3, 4, 5));
        r.end(539);
        refused(r, "559", -1, () -> r.feed(1, 2, 3, 4, 5));
        r.end(521);
        refused(r, "541", -1, () -> r.feed(1, 2, 3, 4, 5));
        r.end(520);
        is("540", r.feed(0x20202020, 0x20202020, 0x20202020, 0x20202020, 0x20202020), 540);
        r.end(500);
        is("none came that was refused", r.law(0), 0);

        sentence("end: true; false, if it has not so many, or n is below 0");
        GiftRegister s = new GiftRegister();
        yes("none of none", s.end(0));
        no("one of none", s.end(1));
        s.feed(0x61616161, 0x61616161, 0x61616161, 0x61616161, 0x61616161);
        for (int n : new int[] {MIN, -1, 21, 540, MAX}) {
            no(n + " of 20", s.end(n));
            is("still", s.count(11), 20);
        }
        yes("20 of 20", s.end(20));
        is("20", s.count(11), 20);
        yes("19 of 20", s.end(19));
        no("20 of 19", s.end(20));
        is("19", s.count(11), 19);
        yes("none", s.end(0));
        is("0", s.count(11), 0);
        is("twenty more", s.feed(0, 0, 0, 0, 0), 20);

        sentence("next: TODAY goes on by n days (0 to 9999); NONE: another n, or it would be behind 9999");
        GiftRegister t = new GiftRegister();
        for (int n : new int[] {MIN, -9999, -1, 10000, MAX}) {
            refused(t, "next(" + n + ")", -1, () -> t.next(n));
        }
        is("0", t.next(0), 0);
        is("1", t.next(1), 1);
        refused(t, "one day too many", -1, () -> t.next(9999));
        refused(t, "back", -1, () -> t.next(-1));
        is("up to the last", t.next(9998), 9999);
        refused(t, "the greatest number", -1, () -> t.next(MAX));
        is("9999 at once", new GiftRegister().next(9999), 9999);
    }

    private static void refusalsInOrder() {
        sentence("owns: -1 less why not, the first of 1, 2, 3, 4");
        GiftRegister r = made("pff");
        r.owns(0, 1, 10000, 0, -1);
        is("1 and 2", r.owns(0, 3, 1, -1, -1), -2);
        is("1 and 3", r.owns(0, 1, 10001, 0, -1), -2);
        is("1 and 3", r.owns(1, 1, 1, 0, -1), -2);
        is("2 and 3", r.owns(0, 1, 1, 5, 5), -3);
        is("3 alone", r.owns(0, 1, 1, 5, 6), -4);
        for (int i = 1; i < 200; i++) {
            r.owns(0, 2, 1, 0, -1);
        }
        is("1 and 4", r.owns(0, 2, 0, 0, -1), -2);
        is("2 and 4", r.owns(0, 2, 1, 0, 0), -3);
        is("3 and 4", r.owns(0, 1, 1, 0, -1), -4);
        is("3 and 4", r.owns(0, 2, 9802, 0, -1), -4);
        is("4 alone", r.owns(0, 2, 9801, 0, -1), -5);
        is("all four", r.owns(0, 1, 0, -1, -1), -2);

        sentence("kin likewise: -2, -3, -5; a POST likewise");
        GiftRegister s = made("ppf");
        is("kin: 1 and 2", s.kin(0, 0, -1, -1), -2);
        is("post: 1 and 2", s.post(2, 2, -1, -1), -2);
        for (int i = 0; i < 100; i++) {
            s.kin(0, 1, 0, -1);
        }
        for (int i = 0; i < 60; i++) {
            s.post(0, 2, 0, -1);
        }
        is("kin: 1 and 4", s.kin(0, 0, 0, -1), -2);
        is("kin: 2 and 4", s.kin(0, 1, 0, 0), -3);
        is("kin: 4 alone", s.kin(0, 1, 0, 1), -5);
        is("post: 1 and 4", s.post(0, 1, 0, -1), -2);
        is("post: 2 and 4", s.post(0, 2, 1, 0), -3);
        is("post: 4 alone", s.post(0, 2, 0, 0), -5);

        sentence("gift: -1 less why not, the first of 1, 2, 3, 4");
        GiftRegister t = made("ppf");
        is("1 and 2", t.gift(0, 0, 4, 0, false, 0, 0), -2);
        is("1 and 3", t.gift(0, 2, 0, 0, false, 1, 0), -2);
        is("2 and 3", t.gift(0, 1, 4, 0, false, 1, 0), -3);
        is("2 and 3", t.gift(0, 1, 0, 10000, false, 1, 0), -3);
        for (int i = 0; i < 120; i++) {
            t.gift(0, 1, 0, 0, false, 0, 0);
        }
        is("1 and 4", t.gift(0, 0, 0, 0, false, 0, 0), -2);
        is("2 and 4", t.gift(0, 1, -1, 0, false, 0, 0), -3);
        is("3 and 4", t.gift(0, 1, 0, 0, false, 1, 0), -4);
        is("4 alone", t.gift(0, 1, 0, 0, false, 0, 0), -5);
    }

    private static void refusals() {
        sentence("part, chain, head, degree: NONE: no such ones, no such day d");
        GiftRegister r = made("ppff");
        r.owns(0, 2, 6000, 0, -1);
        r.kin(0, 1, 0, -1);
        r.chain(0, 2, 0, 0);
        for (int x : new int[] {MIN, -1, 4, 60, MAX}) {
            is("part of " + x, r.part(x, 2, 0, 0), -1);
            is("part in " + x, r.part(0, x, 0, 0), -1);
            is("chain of " + x, r.chain(x, 2, 0, 0), -1);
            is("chain to " + x, r.chain(0, x, 0, 0), -1);
            is("head of " + x, r.head(x, 0, 0), -1);
            is("degree of " + x, r.degree(x, 0, 0, 0), -1);
            is("degree to " + x, r.degree(0, x, 0, 0), -1);
            is("member " + x, r.member(x), -1);
            is("matter about " + x, r.matter(x, 0), -1);
            is("asked " + x, r.asked(x, 0, 0), -1);
        }
        for (int firm = 2; firm <= 3; firm++) {
            is("degree of " + firm, r.degree(firm, 0, 0, 0), -1);
            is("degree to " + firm, r.degree(0, firm, 0, 0), -1);
            is("degree of " + firm + " to itself", r.degree(firm, firm, 0, 0), -1);
            is("member " + firm, r.member(firm), -1);
            is("asked " + firm, r.asked(firm, 0, 0), -1);
        }
        outIs(r, 0, 2);
        is("no MEMBERS, no MATTERS", r.count(7) + r.count(10), 0);

        sentence("sits: NONE: no such ones; quorum: -100: no such MATTER");
        GiftRegister s = made("pf");
        s.matter(1, 0);
        for (int x : new int[] {MIN, -1, 1, 60, MAX}) {
            is("sits in " + x, s.sits(x, 0, 0), -1);
            is(x + " sits", s.sits(0, x, 0), -1);
            is("quorum of " + x, s.quorum(x, 0), -100);
        }
        is("one who is no MEMBER sits", s.sits(0, 0, 0), 0);
        is("quorum", s.quorum(0, 0), 0);

        sentence("judged, entered throw: it is not KNOWN then, or another what");
        GiftRegister t = made("pf");
        t.gift(1, 0, 0, 0, false, 1, 1);
        entry(t, "naa", 1, 0, 1);
        for (int x : new int[] {MIN, -1, 1, 120, MAX}) {
            is("gift " + x, guarded(() -> t.judged(x, 0, 3)), THROWN);
            is("entry " + x, guarded(() -> t.entered(x, 0, 2)), THROWN);
        }
        for (int what : new int[] {MIN, -1, 9, MAX}) {
            is("judged what " + what, guarded(() -> t.judged(0, 0, what)), THROWN);
        }
        for (int what : new int[] {MIN, -1, 3, MAX}) {
            is("entered what " + what, guarded(() -> t.entered(0, 0, what)), THROWN);
        }
        for (int what = 0; what <= 8; what++) {
            yes("judged what " + what, guarded(() -> t.judged(0, 0, 8)) != THROWN);
        }

        sentence("count: NONE for another what");
        for (int what : new int[] {MIN, -1, 13, MAX}) {
            is("what " + what, t.count(what), -1);
        }
        is("12", t.count(12), 0);
    }

    private static void outStays() {
        sentence("chain: 0: there is none (OUT stays); octet: there is none such");
        GiftRegister r = made("ppfff");
        r.owns(0, 2, 6000, 0, -1);
        r.owns(2, 3, 6000, 0, -1);
        outIs(r);
        is("none", r.chain(1, 2, 0, 0), 0);
        outIs(r);
        is("three", r.chain(0, 3, 0, 0), 3);
        outIs(r, 0, 2, 3);
        refused(r, "none to 4", 0, () -> r.chain(0, 4, 0, 0));
        refused(r, "none to itself", 0, () -> r.chain(2, 2, 0, 0));
        refused(r, "none to a person", 0, () -> r.chain(0, 1, 0, 0));
        refused(r, "none as of -1", 0, () -> r.chain(0, 3, 0, -1));
        refused(r, "no such one", -1, () -> r.chain(0, 5, 0, 0));
        refused(r, "no such day", -1, () -> r.chain(0, 3, 10000, 0));
        is("another call", r.asked(0, 0, 5), 6000);
        is("another call", r.part(0, 3, 0, 0), 3600 * ONE);
        outIs(r, 0, 2, 3);
        for (int k : new int[] {MIN, -1, 3, 4, 5, MAX}) {
            is("byte " + k, guarded(() -> r.octet(k)), THROWN);
        }
        is("fewer", r.chain(2, 3, 0, 0), 2);
        outIs(r, 2, 3);
        is("byte 2", guarded(() -> r.octet(2)), THROWN);
    }

    private static void askedEdges() {
        sentence("asked: 1 those TOLD, 2 those told behind the day when due, 3 those not told, behind it");
        GiftRegister r = made("ppf");
        law(r, 0, "tell within 5 if gift;");
        for (int g = 0; g < 6; g++) {
            r.gift(2, 0, g == 5 ? 1 : 0, 10, false, 1 << g, 1000);
        }
        r.gift(2, 1, 0, 10, false, 500, 1000);
        r.next(14);
        r.tell(0);
        r.next(1);
        r.tell(1);
        r.next(1);
        r.tell(2);
        r.tell(5);
        int[] ts = {-1, 0, 14, 15, 16, 17};
        int[][] due = {{0, 0, 0, 0, 0}, {6, 0, 0, 0, 0}, {6, 1, 0, 0, 1}, {6, 2, 0, 0, 3}, {6, 4, 1, 2, 39}, {6, 4, 1, 2, 39}};
        for (int i = 0; i < ts.length; i++) {
            for (int what = 0; what < 5; what++) {
                is("what " + what + " as of " + ts[i], r.asked(0, ts[i], what), due[i][what]);
            }
        }
        is("another person's", r.asked(1, 16, 0), 1);
        is("another person's, behind the day", r.asked(1, 16, 3), 1);
        is("another person's, the day when due", r.asked(1, 15, 3), 0);
        for (int what : new int[] {MIN, -1, 6, MAX}) {
            is("what " + what, r.asked(0, 16, what), -1);
        }

        sentence("asked: 5 the greatest PART now had (on day t) in any PARTY, times 10000, cut");
        GiftRegister s = made("ppff");
        s.owns(0, 2, 9999, 10, 20);
        s.owns(2, 3, 9999, 0, -1);
        s.owns(0, 3, 1, 9999, -1);
        s.next(5);
        s.owns(0, 2, 3, 0, 10);
        int[] days = {-1, 0, 4, 5, 9, 10, 19, 20, 9998, 9999};
        int[] parts = {0, 0, 0, 3, 3, 9999, 9999, 0, 0, 1};
        for (int i = 0; i < days.length; i++) {
            is("on day " + days[i], s.asked(0, days[i], 5), parts[i]);
        }
        is("one without", s.asked(1, 10, 5), 0);
        is("the least of all", s.asked(0, MIN, 5), 0);
    }

    private static void throwsChangeNothing() {
        sentence("A call that throws changes nothing");
        GiftRegister r = made("pff");
        r.owns(0, 1, 6000, 0, -1);
        r.chain(0, 1, 0, 0);
        r.gift(1, 0, 0, 0, false, 1, 1);
        r.tell(0);
        entry(r, "naa", 1, 0, 1);
        law(r, 0, "kin 5;");
        r.feed(1, 2, 3, 4, 5);
        refused(r, "octet", THROWN, () -> r.octet(2));
        refused(r, "judged", THROWN, () -> r.judged(1, 0, 0));
        refused(r, "judged what", THROWN, () -> r.judged(0, 0, 9));
        refused(r, "judged as of -1", THROWN, () -> r.judged(0, -1, 0));
        refused(r, "entered", THROWN, () -> r.entered(1, 0, 0));
        refused(r, "entered what", THROWN, () -> r.entered(0, 0, 3));
        refused(r, "entered as of -1", THROWN, () -> r.entered(0, -1, 0));
        refused(r, "chance what", THROWN, () -> r.chance(0, 2));
        is("the tape stays", r.count(11), 20);
        is("the fault stays", r.fault(), 2);
        is("what is joined stays", r.entered(0, 0, 0), 0);
    }
}
