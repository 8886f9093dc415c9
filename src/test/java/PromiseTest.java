import java.util.NoSuchElementException;

/**
 * At least one test for each promise of the document: ordinary inputs, the edges that it names, and wrong inputs.
 * The answers due are worked out by hand from the document. Exit code 1 if an answer is another one.
 */
public final class PromiseTest {
    private static final int MIN = Integer.MIN_VALUE;
    private static final int MAX = Integer.MAX_VALUE;
    private static final long THROWN = Long.MIN_VALUE;
    private static int wrong;
    private static int checks;
    private static String where = "";

    private interface Call {
        long answer();
    }

    private static void is(String what, long got, long due) {
        checks++;
        if (got != due) {
            wrong++;
            System.out.println(where + ": " + what + " answered " + got + ", due is " + due);
        }
    }

    private static void yes(String what, boolean got) {
        is(what, got ? 1 : 0, 1);
    }

    private static void no(String what, boolean got) {
        is(what, got ? 1 : 0, 0);
    }

    /** What the call answers, THROWN if it throws the exception that the document names; another one goes on. */
    private static long guarded(Call call) {
        try {
            return call.answer();
        } catch (NoSuchElementException e) {
            return THROWN;
        }
    }

    private static void throwsIt(String what, Call call) {
        is(what + " (thrown)", guarded(call), THROWN);
    }

    private static GiftRegister put(GiftRegister r, String text) {
        r.end(0);
        for (int i = 0; i < text.length(); i += 20) {
            int[] n = new int[5];
            for (int k = 0; k < 20 && i + k < text.length(); k++) {
                n[k / 4] |= text.charAt(i + k) << 24 - k % 4 * 8;
            }
            r.feed(n[0], n[1], n[2], n[3], n[4]);
        }
        r.end(text.length());
        return r;
    }

    private static int party(GiftRegister r, String name, int sort) {
        return put(r, name).party(sort);
    }

    private static int law(GiftRegister r, int from, String text) {
        return put(r, text).law(from);
    }

    private static int entry(GiftRegister r, String name, int giver, int day, int worth) {
        return put(r, name).entry(giver, day, worth);
    }

    /** People 0 .. people - 1, then firms, all of names of their own: pa, pb .. fa, fb .. */
    private static GiftRegister with(int people, int firms) {
        GiftRegister r = new GiftRegister();
        for (int i = 0; i < people; i++) {
            party(r, "p" + (char) ('a' + i / 26) + (char) ('a' + i % 26), 0);
        }
        for (int i = 0; i < firms; i++) {
            party(r, "f" + (char) ('a' + i / 26) + (char) ('a' + i % 26), 1 + i % 2);
        }
        return r;
    }

    private static String outOf(GiftRegister r) {
        StringBuilder text = new StringBuilder();
        for (int k = 0; k < r.count(12); k++) {
            text.append(k == 0 ? "" : " ").append(r.octet(k));
        }
        return text.toString();
    }

    private static void outIs(GiftRegister r, String due) {
        checks++;
        if (!outOf(r).equals(due)) {
            wrong++;
            System.out.println(where + ": OUT is " + outOf(r) + ", due is " + due);
        }
    }

    public static void main(String[] args) {
        newObject();
        feedEndNext();
        parties();
        owning();
        kinAndPosts();
        gifts();
        worthBackTell();
        lawTexts();
        lawFaults();
        lawLimits();
        lawsInForce();
        lawsBehindFaults();
        partAndChain();
        heads();
        degrees();
        judging();
        sumAndCount();
        judgedWrong();
        membersAndMatters();
        sitting();
        sittingByPart();
        posts();
        quorums();
        entries();
        joining();
        joiningFirst();
        votes();
        warmth();
        chances();
        asking();
        counting();
        wildInputs();
        System.out.println(wrong == 0 ? "promises: all " + checks + " answers are as due" : "promises: " + wrong + " answers are not as due");
        if (wrong != 0) {
            System.exit(1);
        }
    }

    private static void newObject() {
        where = "1 a new object";
        GiftRegister r = new GiftRegister();
        for (int what = 0; what <= 12; what++) {
            is("count(" + what + ")", r.count(what), 0);
        }
        is("fault", r.fault(), 0);
        throwsIt("octet(0)", () -> r.octet(0));
        is("NONE", GiftRegister.NONE, -1);
        r.next(5);
        is("another object's day", new GiftRegister().count(0), 0);
    }

    private static void feedEndNext() {
        where = "2 feed";
        GiftRegister r = new GiftRegister();
        is("first", r.feed(0x61626364, 0x65666768, 0x696a6b6c, -1, MIN), 20);
        yes("end", r.end(12));
        is("bytes highest first", r.party(0), 0);
        is("name of 12 letters in order", entry(r, "abcdefghijkl", 0, 0, 0), 0);
        is("its bearers", r.entered(0, 0, 2), 1);
        for (int i = 1; i <= 27; i++) {
            is("feed " + i, r.feed(1, 2, 3, 4, 5), 20 * i);
        }
        is("full", r.feed(0, 0, 0, 0, 0), -1);
        is("nothing came", r.count(11), 540);
        yes("end", r.end(521));
        is("one too many", r.feed(0, 0, 0, 0, 0), -1);
        yes("end", r.end(520));
        is("just so many", r.feed(0, 0, 0, 0, 0), 540);

        where = "3 end";
        no("more than there are", r.end(541));
        no("below 0", r.end(-1));
        no("far below 0", r.end(MIN));
        is("stays", r.count(11), 540);
        yes("all", r.end(540));
        yes("none", r.end(0));
        no("one of none", r.end(1));
        yes("none of none", r.end(0));

        where = "4 next";
        is("no day", r.next(0), 0);
        is("one", r.next(1), 1);
        is("below", r.next(-1), -1);
        is("beyond", r.next(9999), -1);
        is("10000", r.next(10000), -1);
        is("far beyond", r.next(MAX), -1);
        is("TODAY stays", r.count(0), 1);
        is("to the last", r.next(9998), 9999);
        is("behind the last", r.next(1), -1);
        is("stays on the last", r.next(0), 9999);
        is("all at once", new GiftRegister().next(9999), 9999);
    }

    private static void parties() {
        where = "5 party";
        GiftRegister r = new GiftRegister();
        is("empty name", party(r, "", 0), -1);
        is("capital", party(r, "Anna", 0), -1);
        is("digit", party(r, "anna1", 0), -1);
        is("blank", party(r, "an na", 0), -1);
        is("sign below a", party(r, "a`", 0), -1);
        is("sign behind z", party(r, "z{", 0), -1);
        is("byte 255", party(r, "a\u00ff", 0), -1);
        is("13 letters", party(r, "abcdefghijklm", 0), -1);
        is("sort -1", party(r, "a", -1), -1);
        is("tape empty behind a refusal", r.count(11), 0);
        is("sort 3", party(r, "a", 3), -1);
        is("person", party(r, "a", 0), 0);
        is("firm of the same name", party(r, "a", 1), 1);
        is("trust of 12 letters", party(r, "zzzzzzzzzzzz", 2), 2);
        is("tape empty", r.count(11), 0);
        for (int i = 3; i < 60; i++) {
            is("party " + i, party(r, "x", i % 3), i);
        }
        is("the 61st", party(r, "x", 0), -1);
        is("tape empty when full", r.count(11), 0);
        is("how many", r.count(1), 60);
    }

    private static void owning() {
        where = "6 owns";
        GiftRegister r = with(2, 3);
        is("no owner", r.owns(5, 2, 1, 0, -1), -2);
        is("owner below", r.owns(-1, 2, 1, 0, -1), -2);
        is("nothing owned", r.owns(0, 5, 1, 0, -1), -2);
        is("a person owned", r.owns(0, 1, 1, 0, -1), -2);
        is("itself", r.owns(2, 2, 1, 0, -1), -2);
        is("part 0", r.owns(0, 2, 0, 0, -1), -2);
        is("part 10001", r.owns(0, 2, 10001, 0, -1), -2);
        is("no party ahead of bad days", r.owns(9, 2, 1, -1, -1), -2);
        is("from below", r.owns(0, 2, 1, -1, -1), -3);
        is("from beyond", r.owns(0, 2, 1, 10000, -1), -3);
        is("until is from", r.owns(0, 2, 1, 5, 5), -3);
        is("until ahead", r.owns(0, 2, 1, 5, 4), -3);
        is("until beyond", r.owns(0, 2, 1, 5, 10000), -3);
        is("until -2", r.owns(0, 2, 1, 5, -2), -3);
        is("the whole", r.owns(0, 2, 10000, 10, 20), 0);
        is("one more within", r.owns(1, 2, 1, 19, 20), -4);
        is("one more from ahead", r.owns(1, 2, 1, 0, 11), -4);
        is("one more round it", r.owns(1, 2, 1, 0, -1), -4);
        is("up to it", r.owns(1, 2, 10000, 0, 10), 1);
        is("behind it", r.owns(1, 2, 10000, 20, -1), 2);
        is("on the last day alone", r.owns(1, 2, 1, 9999, -1), -4);
        is("firm owns trust", r.owns(2, 3, 6000, 0, -1), 3);
        is("trust owns firm", r.owns(3, 4, 1, 9998, 9999), 4);
        is("the same two again", r.owns(2, 3, 4000, 5, -1), 5);
        is("one too much", r.owns(0, 3, 1, 9999, -1), -4);
        is("those of other days don't add up", r.owns(0, 4, 5000, 0, 10), 6);
        is("", r.owns(0, 4, 5000, 10, 20), 7);
        is("", r.owns(1, 4, 5000, 0, 20), 8);
        is("told later", r.next(10), 10);
        is("whenever they were told", r.owns(1, 4, 1, 15, 16), -4);

        GiftRegister full = with(1, 2);
        for (int i = 0; i < 200; i++) {
            is("row " + i, full.owns(0, 1, 10, 0, -1), i < 200 ? i : -5);
            if (i == 100) {
                is("to be cut", full.part(0, 1, 0, 0), 101 * 10 * 1000000000000L);
            }
        }
        is("the 201st", full.owns(0, 2, 1, 0, -1), -5);
        is("days ahead of too many", full.owns(0, 2, 1, 0, 0), -3);
        is("too much ahead of too many", full.owns(0, 1, 8001, 0, -1), -4);
        is("how many", full.count(2), 200);
        is("all of them", full.part(0, 1, 0, 0), 2000 * 1000000000000L);
    }

    private static void kinAndPosts() {
        where = "7 kin";
        GiftRegister r = with(3, 1);
        is("a person and itself", r.kin(1, 1, 0, -1), -2);
        is("a firm", r.kin(0, 3, 0, -1), -2);
        is("a firm ahead", r.kin(3, 0, 0, -1), -2);
        is("nobody", r.kin(0, 4, 0, -1), -2);
        is("until is from", r.kin(0, 1, 7, 7), -3);
        is("from beyond", r.kin(0, 1, 10000, -1), -3);
        is("until -2", r.kin(0, 1, 0, -2), -3);
        is("first", r.kin(0, 1, 7, 8), 0);
        is("again", r.kin(1, 0, 0, 9999), 1);
        for (int i = 2; i < 100; i++) {
            is("row " + i, r.kin(0, 2, 0, -1), i);
        }
        is("the 101st", r.kin(0, 1, 0, -1), -5);
        is("days ahead of that", r.kin(0, 1, 0, 0), -3);
        is("how many", r.count(3), 100);

        where = "8 post";
        is("a firm's", r.post(3, 3, 0, -1), -2);
        is("at a person", r.post(0, 1, 0, -1), -2);
        is("nowhere", r.post(0, 4, 0, -1), -2);
        is("until ahead", r.post(0, 3, 7, 6), -3);
        is("until beyond", r.post(0, 3, 7, 10000), -3);
        is("from below", r.post(0, 3, -1, 6), -3);
        is("one day", r.post(0, 3, 7, 7), 0);
        for (int i = 1; i < 60; i++) {
            is("row " + i, r.post(0, 3, 9999, -1), i);
        }
        is("the 61st", r.post(0, 3, 0, -1), -5);
        is("days ahead of that", r.post(0, 3, 1, 0), -3);
        is("how many", r.count(4), 60);
    }

    private static void gifts() {
        where = "9 gift";
        GiftRegister r = with(2, 1);
        is("nobody gives", r.gift(3, 0, 0, 0, false, 0, 0), -2);
        is("nobody takes", r.gift(0, 3, 0, 0, false, 0, 0), -2);
        is("a firm takes", r.gift(0, 2, 0, 0, false, 0, 0), -2);
        is("to itself", r.gift(1, 1, 0, 0, false, 0, 0), -2);
        is("kind -1", r.gift(0, 1, -1, 0, false, 0, 0), -3);
        is("kind 4", r.gift(0, 1, 4, 0, false, 0, 0), -3);
        is("day -1", r.gift(0, 1, 0, -1, false, 0, 0), -3);
        is("day 10000", r.gift(0, 1, 0, 10000, false, 0, 0), -3);
        is("least below", r.gift(0, 1, 0, 0, false, -1, 0), -4);
        is("least over most", r.gift(0, 1, 0, 0, false, 2, 1), -4);
        is("most beyond", r.gift(0, 1, 0, 0, false, 0, 1000001), -4);
        is("kind ahead of worth", r.gift(0, 1, 4, 0, false, 2, 1), -3);
        is("from a firm", r.gift(2, 1, 3, 9999, true, 1000000, 1000000), 0);
        is("least of it", r.judged(0, 0, 3), 1000000);
        is("from a person", r.gift(0, 1, 0, 0, false, 0, 1000000), 1);
        is("least", r.judged(1, 0, 3), 0);
        is("most", r.judged(1, 0, 4), 1000000);
        for (int i = 2; i < 120; i++) {
            is("row " + i, r.gift(0, 1, 0, 0, false, 0, 0), i);
        }
        is("the 121st", r.gift(0, 1, 0, 0, false, 0, 0), -5);
        is("worth ahead of that", r.gift(0, 1, 0, 0, false, 1, 0), -4);
        is("how many", r.count(5), 120);
    }

    private static void worthBackTell() {
        where = "10 worth";
        GiftRegister r = with(2, 1);
        no("no gift", r.worth(0, 1, 2));
        r.gift(2, 0, 0, 50, false, 10, 20);
        no("gift -1", r.worth(-1, 1, 2));
        no("gift 1", r.worth(1, 1, 2));
        no("least over most", r.worth(0, 3, 2));
        no("least below", r.worth(0, -1, 2));
        no("most beyond", r.worth(0, 1, 1000001));
        r.next(3);
        yes("first", r.worth(0, 30, 1000000));
        yes("second on that day", r.worth(0, 31, 41));
        is("as of the day ahead", r.judged(0, 2, 3), 10);
        is("as of that day the last one", r.judged(0, 3, 3), 31);
        is("most", r.judged(0, 3, 4), 41);
        r.next(3);
        yes("later", r.worth(0, 0, 0));
        is("still", r.judged(0, 5, 4), 41);
        is("then", r.judged(0, 6, 4), 0);
        for (int i = 3; i < 200; i++) {
            yes("worth " + i, r.worth(0, i, i));
        }
        no("the 201st", r.worth(0, 1, 1));
        is("the last stays", r.judged(0, 6, 3), 199);

        where = "11 back";
        no("no gift", r.back(1, 60));
        no("gift -1", r.back(-1, 60));
        no("ahead of its day", r.back(0, 49));
        no("beyond", r.back(0, 10000));
        is("none yet", r.judged(0, 9, 5), -1);
        yes("on its day", r.back(0, 50));
        no("twice", r.back(0, 51));
        is("as of today", r.judged(0, 6, 5), 50);
        is("not as of yesterday", r.judged(0, 5, 5), -1);
        r.gift(2, 0, 0, 9999, false, 10, 20);
        yes("on the last day", r.back(1, 9999));

        where = "12 tell";
        no("no gift", r.tell(2));
        no("gift -1", r.tell(-1));
        is("none yet", r.judged(0, 9, 6), -1);
        yes("told", r.tell(0));
        no("twice", r.tell(0));
        is("on", r.judged(0, 6, 6), 6);
        is("not told as of yesterday", r.judged(0, 5, 6), -1);
        yes("the other one", r.tell(1));
    }

    private static void lawTexts() {
        where = "13 law";
        GiftRegister r = new GiftRegister();
        is("the empty text", law(r, 0, ""), 0);
        is("blanks", law(r, 9999, " \n  \n"), 0);
        is("every rule", law(r, 3, "tell within 0 if gift; tell if least<5;sit if kin; may if not post;kin 0;year 999;old 0;link 1;quorum 0;"), 9);
        is("tape empty", r.count(11), 0);
        is("nests and links", law(r, 0, "tell if not(gift or meal and(journey))and not not share or\nforeign and back;"), 1);
        is("signs", law(r, 0, "tell if least<0 and most=9999999 or sum>0000007 or count<1;may if part<1 or kinpart=2 or sum>3 or count=4;"), 2);
        is("how many", r.count(6), 5);
        is("day -1", law(r, -1, "kin 1;"), -1000);
        is("day 10000", law(r, 10000, "kin 1;"), -1000);
        is("tape empty behind that", r.count(11), 0);
        is("a fault", law(r, 0, "kin 1; old"), -11);
        is("none more", r.count(6), 5);
        is("tape empty behind that", r.count(11), 0);
        is("the sixth", law(r, 0, "quorum 12;"), 1);
        is("the seventh", law(r, 0, ""), -1000);
        is("tape empty behind that", put(r, "kin").law(0) * 0 + r.count(11), 0);
        is("how many", r.count(6), 6);

        where = "14 fault";
        GiftRegister s = new GiftRegister();
        is("ahead of any", s.fault(), 0);
        law(s, 0, "year 0;");
        is("a number", s.fault(), 2);
        law(s, -1, "old;");
        is("-1000 leaves it", s.fault(), 2);
        law(s, 0, "");
        is("none", s.fault(), 0);
        law(s, 0, "sit");
        is("the end", s.fault(), 1);
        law(s, 10000, "");
        is("-1000 leaves it", s.fault(), 1);
    }

    private static void fails(String text, int kind, int place) {
        GiftRegister r = new GiftRegister();
        is(text, law(r, 0, text), -1 - place);
        is(text + " (kind)", r.fault(), kind);
        is(text + " (none more)", r.count(6), 0);
    }

    private static void stands(String text, int rules) {
        GiftRegister r = new GiftRegister();
        is(text, law(r, 0, text), rules);
        is(text + " (kind)", r.fault(), 0);
    }

    private static void lawFaults() {
        where = "13 faults";
        fails(";", 1, 0);
        fails(" gift;", 1, 1);
        fails("tell", 1, 4);
        fails("tell  ", 1, 6);
        fails("tell gift;", 1, 5);
        fails("tell within if gift;", 1, 12);
        fails("tell within 1000 if gift;", 2, 12);
        fails("tell within 1 2 if gift;", 1, 14);
        fails("tell within 1 within 1 if gift;", 1, 14);
        fails("tell if;", 1, 7);
        fails("tell if gift", 1, 12);
        fails("tell if gift and;", 1, 16);
        fails("tell if gift or or meal;", 1, 16);
        fails("tell if ();", 1, 9);
        fails("tell if (gift;", 1, 13);
        fails("tell if gift);", 1, 12);
        fails("tell if not;", 1, 11);
        fails("tell if gift not meal;", 1, 13);
        fails("tell if gift (meal);", 1, 13);
        fails("tell if least;", 1, 13);
        fails("tell if least<;", 1, 14);
        fails("tell if least<<1;", 1, 14);
        fails("tell if least 1;", 1, 14);
        fails("tell if least<12345678;", 1, 14);
        fails("tell if least<1a;", 1, 14);
        fails("tell if gift<1;", 1, 12);
        fails("tell if part<1;", 1, 8);
        fails("tell if post;", 1, 8);
        fails("sit if least<1;", 1, 7);
        fails("sit if back;", 1, 7);
        fails("sit within 3 if kin;", 1, 4);
        fails("may if foreign;", 1, 7);
        fails("kin;", 1, 3);
        fails("kin kin;", 1, 4);
        fails("kin 1", 1, 5);
        fails("kin 1 2;", 1, 6);
        fails("kin1;", 1, 0);
        fails("kin 5;", 2, 4);
        fails("kin 5", 2, 4);
        fails("kin 12345678;", 1, 4);
        fails("year 0;", 2, 5);
        fails("year 1000;", 2, 5);
        fails("old 3651;", 2, 4);
        fails("link 0;", 2, 5);
        fails("link 1000;", 2, 5);
        fails("quorum 13;", 2, 7);
        fails("kin 1;kin 1;", 3, 6);
        fails("kin 1;kin;", 3, 6);
        fails("year 1; link 1; year", 3, 16);
        fails("sit if kin;sit;", 3, 11);
        fails("may if kin;kin 1;may", 3, 17);
        fails("quorum 1;quorum", 3, 9);
        fails("tell if gift;".repeat(8) + "tell", 3, 104);
        stands("tell if gift;".repeat(8), 8);
        stands("kin 0000004;year 1;year".substring(0, 19), 2);
        stands("kin 4;year 999;old 3650;link 999;quorum 12;", 5);
        stands("kin 0;year 1;old 0;link 1;quorum 0;tell within 999 if kin;tell within 0 if kin;", 7);
        fails("kin 1;\tyear 1;", 1, 6);
        fails("kin 1;\ryear 1;", 1, 6);
        fails("Kin 1;", 1, 0);
        fails("kin 1;\u00e9", 1, 6);
        fails("kin 1;\u0000", 1, 6);
        fails("kin -1;", 1, 4);
        fails("tell if gift!;", 1, 12);
        fails("tell if sum>=1;", 1, 12);
        fails("if gift;", 1, 0);
        fails("within 1;", 1, 0);
        fails("k", 1, 0);
        fails("quorums 1;", 1, 0);
        fails("tell ifgift;", 1, 5);
    }

    private static String wide(int ones) {
        return "may if kin" + " or kin".repeat(ones - 1) + ";";
    }

    private static void lawLimits() {
        where = "13 limits";
        stands(wide(60), 1);
        fails(wide(61), 4, 7 + 60 * 7);
        fails("may if kin" + " or kin".repeat(59) + " or gift;", 1, 7 + 60 * 7);
        fails("may if kin" + " or kin".repeat(58) + " or (kin);", 4, 7 + 59 * 7 + 1);
        fails("sit if kin" + " or kin".repeat(29) + ";may if kin" + " or kin".repeat(30) + ";", 4, 7 + 3 + 29 * 7 + 1 + 7 + 30 * 7);
        stands("sit if kin" + " or kin".repeat(29) + ";may if kin" + " or kin".repeat(29) + ";", 2);
        stands("tell if " + "(".repeat(19) + "gift" + ")".repeat(19) + ";", 1);
        fails("tell if " + "(".repeat(20) + "gift" + ")".repeat(20) + ";", 4, 28);
        fails("tell if " + "(".repeat(20) + "post" + ")".repeat(20) + ";", 1, 28);
        fails("tell if " + "(".repeat(21) + "gift", 4, 28);
        stands("tell if " + "not ".repeat(19) + "gift;", 1);
        fails("tell if " + "not ".repeat(20) + "gift;", 4, 88);
        stands("tell if not gift" + " and not gift".repeat(25) + ";", 1);
        stands("tell if (gift)" + " or (gift)".repeat(25) + ";", 1);
        stands("tell if not (not gift)" + " or not (not gift)".repeat(12) + ";", 1);
        stands("tell if " + "not(".repeat(9) + "not gift" + ")".repeat(9) + ";", 1);
        stands("tell if " + "(".repeat(19) + "gift" + ")".repeat(19) + " and " + "(".repeat(19) + "gift" + ")".repeat(19) + ";", 1);

        String rule = "tell if meal;";
        stands(rule + " ".repeat(500 - rule.length()), 1);
        fails(rule + " ".repeat(501 - rule.length()), 1, 500);
        fails(rule + " ".repeat(501 - rule.length() - 3) + "kin", 1, 500);
        fails(rule + " ".repeat(499 - rule.length()) + "kin 1;", 1, 500);
        fails(rule + " ".repeat(498 - rule.length()) + "kinx 1;", 1, 498);
        fails(rule + " ".repeat(498 - rule.length()) + "ki!", 1, 498);
        fails(rule + " ".repeat(495 - rule.length()) + "kin 5555;", 2, 499);
        fails(rule + " ".repeat(495 - rule.length()) + "kin 3333333;", 2, 499);
        fails(rule + " ".repeat(495 - rule.length()) + "kin 33333333;", 1, 499);
        fails(rule + " ".repeat(495 - rule.length()) + "kin 0000003;", 1, 500);
        fails(rule + " ".repeat(500 - rule.length()) + "!", 1, 500);
        fails("!" + " ".repeat(539), 1, 0);
        fails(" ".repeat(540), 1, 500);
        fails(rule + " ".repeat(495 - rule.length()) + "kin 1", 1, 500);
        stands(rule + " ".repeat(494 - rule.length()) + "kin 1;", 2);
    }

    private static void lawsInForce() {
        where = "13 laws in force";
        GiftRegister r = with(2, 1);
        r.gift(2, 0, 1, 100, false, 10, 20);
        is("no law", r.judged(0, 0, 1), -1);
        is("", law(r, 50, "tell within 1 if meal;"), 1);
        is("of day 50", r.judged(0, 0, 2), 101);
        is("", law(r, 101, "tell within 2 if meal;"), 1);
        is("one from a later day", r.judged(0, 0, 2), 101);
        r.next(10);
        is("", law(r, 100, "tell within 3 if meal;"), 1);
        is("the latest of those not behind", r.judged(0, 10, 2), 103);
        is("not known yet", r.judged(0, 9, 2), 101);
        is("", law(r, 50, "tell within 4 if meal;"), 1);
        is("an older day", r.judged(0, 10, 2), 103);
        is("", law(r, 100, "tell within 5 if meal;"), 1);
        is("like ones: told last", r.judged(0, 10, 2), 105);
        is("a fault changes nothing", law(r, 100, "tell within 6 if meal;x"), -23);
        is("", r.judged(0, 10, 2), 105);
        is("", law(r, 100, ""), 0);
        is("the empty one", r.judged(0, 10, 2), -1);
        is("state", r.judged(0, 10, 0), 0);
    }

    /** What a text that has a fault tells is not in the one that comes behind it. */
    private static void lawsBehindFaults() {
        where = "13 a law behind a fault";
        GiftRegister r = with(3, 1);
        r.kin(0, 1, 0, -1);
        r.kin(1, 2, 0, -1);
        r.post(0, 3, 0, 100);
        r.gift(3, 0, 0, 400, false, 1, 1);
        r.gift(3, 0, 0, 100, false, 1, 1);
        r.gift(3, 2, 0, 400, false, 1, 1);
        r.matter(3, 400);
        r.matter(3, 465);
        r.member(0);
        r.vote(0, 0, true);
        String all = "kin 2;year 1;old 9;link 400;quorum 3;sit if not kin;may if not kin;tell within 3 if gift and (meal or not share";
        is("a fault at the end", law(r, 0, all), -1 - all.length());
        is("no rule", law(r, 0, "sit if post;"), 1);
        is("old", r.sits(1, 0, 0), 2);
        is("no may", r.sits(0, 1, 0), 0);
        is("quorum", r.quorum(0, 0), 0);
        is("no tell", r.judged(0, 0, 1), -1);
        is("year", r.judged(0, 0, 8), 2);
        is("a fault at the end", law(r, 0, all), -1 - all.length());
        is("kin told once", law(r, 0, "kin 1;may if kin or not kin;tell if (gift);"), 3);
        is("no sit", r.sits(0, 0, 0), 1);
        is("tell", r.judged(0, 0, 2), 430);
        is("kin", r.judged(2, 0, 8), 1);
        is("link", r.links(0, 2), 1);
        is("a fault behind many", law(r, 0, wide(60) + ";"), -1 - wide(60).length());
        is("as many again", law(r, 0, wide(60)), 1);
    }

    private static void partAndChain() {
        where = "15 part";
        long one = 1000000000000L;
        GiftRegister r = with(2, 6);
        // 2 .. 7 are firms and trusts: 0 - 2 - 3 - 4 - 5 - 6, and 0 - 3 besides.
        r.owns(0, 2, 5000, 0, -1);
        r.owns(2, 3, 4000, 0, -1);
        r.owns(3, 4, 3001, 0, -1);
        r.owns(4, 5, 9999, 0, -1);
        r.owns(5, 6, 10000, 0, -1);
        r.owns(0, 3, 1000, 10, 20);
        r.owns(0, 3, 2000, 15, -1);
        r.next(7);
        r.owns(4, 2, 1, 0, -1);
        is("one", r.part(0, 2, 0, 0), 5000 * one);
        is("two", r.part(0, 3, 0, 0), 2000 * one);
        is("three", r.part(0, 4, 0, 0), 5000L * 4000 * 3001 * 10000);
        is("four", r.part(0, 5, 0, 0), 5000L * 4000 * 3001 * 9999);
        is("five are too many", r.part(0, 6, 0, 0), 0);
        is("five, but for one that is shorter", r.part(0, 6, 10, 0), 1000L * 3001 * 9999 * 10000);
        is("added up", r.part(0, 4, 15, 0), (3000L * 10000 + 5000L * 4000) * 3001 * 10000);
        is("up to the day ahead", r.part(0, 3, 20, 0), (2000 + 2000) * one);
        is("on that day", r.part(0, 3, 19, 0), (3000 + 2000) * one);
        is("not twice through one", r.part(2, 2, 0, 7), 0);
        is("a ring, once round", r.part(3, 2, 0, 7), 3001L * 10000 * 10000);
        is("not known", r.part(3, 2, 0, 6), 0);
        is("none", r.part(1, 2, 0, 0), 0);
        is("in itself", r.part(0, 0, 0, 0), 0);
        is("no x", r.part(8, 2, 0, 0), -1);
        is("no f", r.part(0, 8, 0, 0), -1);
        is("x below", r.part(-1, 2, 0, 0), -1);
        is("f below", r.part(0, -1, 0, 0), -1);
        is("day below", r.part(0, 2, -1, 0), -1);
        is("day beyond", r.part(0, 2, 10000, 0), -1);
        is("t below", r.part(0, 2, 0, -1), 0);
        is("t beyond", r.part(0, 2, 9999, MAX), 5000 * one + 2000L * 3001 * 10000);

        where = "16 chain";
        throwsIt("OUT is empty yet", () -> r.octet(0));
        is("four", r.chain(0, 5, 0, 0), 5);
        outIs(r, "0 2 3 4 5");
        is("too far", r.chain(0, 6, 0, 0), 0);
        outIs(r, "0 2 3 4 5");
        is("the greater one", r.chain(0, 3, 10, 0), 3);
        outIs(r, "0 2 3");
        is("the greater one, by parts told apart", r.chain(0, 3, 15, 0), 2);
        outIs(r, "0 3");
        is("of like ones the shortest", r.chain(0, 3, 20, 0), 2);
        outIs(r, "0 3");
        is("itself", r.chain(3, 3, 0, 7), 0);
        is("none as of then", r.chain(3, 2, 0, 6), 0);
        is("no x", r.chain(8, 2, 0, 0), -1);
        is("no f", r.chain(0, 8, 0, 0), -1);
        is("no day", r.chain(0, 2, 10000, 0), -1);
        outIs(r, "0 3");

        GiftRegister s = with(1, 5);
        // 0 - 3 - 1 - 2 and 0 - 1 - 3 - 2 and 0 - 4 - 2 and 0 - 5 - 2: products alike by twos.
        s.owns(0, 4, 5000, 0, -1);
        s.owns(4, 2, 1000, 0, -1);
        s.owns(0, 5, 1000, 0, -1);
        s.owns(5, 2, 5000, 0, -1);
        is("like ones of one length", s.chain(0, 2, 0, 0), 3);
        outIs(s, "0 4 2");
        is("part of both", s.part(0, 2, 0, 0), 1000 * one);
        s.owns(0, 1, 10000, 5, -1);
        s.owns(1, 3, 10000, 5, -1);
        s.owns(3, 2, 500, 5, -1);
        is("a longer one of a lesser number", s.chain(0, 2, 5, 0), 3);
        outIs(s, "0 4 2");
        s.owns(3, 2, 1, 6, -1);
        is("greater by one", s.chain(0, 2, 6, 0), 4);
        outIs(s, "0 1 3 2");

        where = "17 octet";
        is("first", s.octet(0), 0);
        is("last", s.octet(3), 2);
        throwsIt("behind", () -> s.octet(4));
        throwsIt("below", () -> s.octet(-1));
        throwsIt("far below", () -> s.octet(MIN));
        throwsIt("far behind", () -> s.octet(MAX));
        is("how many", s.count(12), 4);
        s.chain(0, 4, 0, 0);
        is("fewer", s.count(12), 2);
        throwsIt("what was there ahead", () -> s.octet(2));
    }

    private static void heads() {
        where = "18 head";
        GiftRegister r = with(3, 6);
        // People 0 1 2, bodies 3 .. 8.
        r.owns(2, 4, 5000, 0, -1);
        is("half is not enough", r.head(4, 0, 0), 4);
        r.owns(2, 4, 1, 10, 20);
        is("one more is", r.head(4, 10, 0), 2);
        is("up to then", r.head(4, 20, 0), 4);
        is("a person", r.head(2, 10, 0), 2);
        r.owns(4, 5, 3000, 0, -1);
        r.owns(2, 5, 2001, 0, -1);
        is("with what is controlled", r.head(5, 10, 0), 2);
        is("without it", r.head(5, 9, 0), 5);
        r.owns(1, 3, 10000, 0, -1);
        r.owns(3, 6, 6000, 0, -1);
        r.owns(6, 7, 6000, 0, -1);
        is("on and on", r.head(7, 0, 0), 1);
        r.next(5);
        r.owns(7, 8, 10000, 0, -1);
        is("known then", r.head(8, 0, 5), 1);
        is("not known then", r.head(8, 0, 4), 8);
        is("known then", r.head(8, 0, 5), 1);
        is("not known on day 0, asked behind another one", r.head(8, 0, 0), 8);
        is("ahead of more", r.head(8, 10, 5), 1);
        r.owns(0, 4, 4000, 9000, -1);
        is("told between two that are alike", r.head(8, 10, 5), 1);
        is("t below", r.head(7, 0, -1), 7);
        is("no such party", r.head(9, 0, 0), -1);
        is("party -1", r.head(-1, 0, 0), -1);
        is("no such day", r.head(0, 10000, 0), -1);
        is("day -1", r.head(0, -1, 0), -1);

        GiftRegister ring = with(1, 5);
        // 1 controls 3, 3 controls 2, 2 controls 1: nobody in the ring is free of all others; 4 hangs on it.
        ring.owns(1, 3, 6000, 0, -1);
        ring.owns(3, 2, 6000, 0, -1);
        ring.owns(2, 1, 6000, 0, -1);
        ring.owns(3, 4, 6000, 0, -1);
        for (int x = 1; x <= 4; x++) {
            is("in the ring " + x, ring.head(x, 0, 0), 1);
        }
        is("out of it", ring.head(5, 0, 0), 5);
        ring.owns(5, 1, 4000, 0, -1);
        is("less than half changes nothing", ring.head(1, 0, 0), 1);

        // 1 controls 2 and 3, each of which is enough for 4; what 4 has in 5 counts once alone.
        GiftRegister once = with(2, 4);
        once.owns(1, 2, 6000, 0, -1);
        once.owns(1, 3, 6000, 0, -1);
        once.owns(2, 4, 5001, 0, -1);
        once.owns(3, 4, 4999, 0, -1);
        once.owns(4, 5, 3000, 0, -1);
        is("controlled", once.head(4, 0, 0), 1);
        is("counts once", once.head(5, 0, 0), 5);
        once.owns(3, 5, 2000, 0, -1);
        is("not yet", once.head(5, 0, 0), 5);
        once.owns(2, 5, 1, 0, -1);
        is("together", once.head(5, 0, 0), 1);

        GiftRegister first = new GiftRegister();
        party(first, "f", 1);
        party(first, "p", 0);
        first.owns(1, 0, 6000, 0, -1);
        is("party 0 has a head", first.head(0, 0, 0), 1);
        is("a part in party 0", first.asked(1, 0, 5), 6000);
        is("a chain to party 0", first.chain(1, 0, 0, 0), 2);
        outIs(first, "1 0");

        GiftRegister two = with(2, 3);
        // Two halves of the parts of 4 are in 2 and 3, both controlled by 1 alone.
        two.owns(1, 2, 5001, 0, -1);
        two.owns(1, 3, 5001, 0, -1);
        two.owns(2, 4, 2501, 0, -1);
        two.owns(3, 4, 2500, 0, -1);
        is("two together", two.head(4, 0, 0), 1);
        is("neither alone", two.head(2, 0, 0), 1);
        two.owns(0, 4, 4999, 0, -1);
        is("another owner", two.head(4, 0, 0), 1);
    }

    private static void degrees() {
        where = "19 degree";
        GiftRegister r = with(7, 1);
        for (int i = 0; i < 5; i++) {
            r.kin(i + 1, i, 10, i == 2 ? 20 : -1);
        }
        is("itself", r.degree(0, 0, 10, 0), 0);
        for (int i = 1; i <= 4; i++) {
            is("to " + i, r.degree(0, i, 10, 0), i);
            is("from " + i, r.degree(i, 0, 10, 0), i);
        }
        is("five", r.degree(0, 5, 10, 0), 5);
        is("none", r.degree(0, 6, 10, 0), 5);
        is("ahead", r.degree(0, 1, 9, 0), 5);
        is("the last day of one", r.degree(0, 3, 19, 0), 3);
        is("no more", r.degree(0, 3, 20, 0), 5);
        r.next(4);
        r.kin(0, 3, 0, -1);
        is("shorter", r.degree(0, 4, 10, 4), 2);
        is("not known", r.degree(0, 4, 10, 3), 4);
        is("the day ahead of all, asked behind another one", r.degree(0, 1, 10, 4), 1);
        is("the day ahead of all, asked behind another one", r.degree(0, 1, 0, 4), 5);
        is("as known", r.degree(0, 3, 0, 4), 1);
        is("as known on day 0, asked behind another one", r.degree(0, 3, 0, 0), 5);
        is("as known", r.degree(0, 6, 0, 4), 5);
        r.kin(0, 6, 0, -1);
        is("told between two that are alike", r.degree(0, 6, 0, 4), 1);
        is("t below", r.degree(0, 1, 10, -1), 5);
        is("itself, t below", r.degree(6, 6, 10, -1), 0);
        is("a firm", r.degree(0, 7, 10, 0), -1);
        is("a firm ahead", r.degree(7, 0, 10, 0), -1);
        is("nobody", r.degree(0, 8, 10, 0), -1);
        is("below", r.degree(-1, 0, 10, 0), -1);
        is("day below", r.degree(0, 1, -1, 0), -1);
        is("day beyond", r.degree(0, 1, 10000, 0), -1);
    }

    /** The rule by which a meal of day 100 from firm 3 to person 0 must be told, by the law. */
    private static long ruleBy(String text) {
        GiftRegister r = with(3, 2);
        r.kin(0, 1, 0, -1);
        r.gift(3, 0, 1, 100, true, 10, 20);
        r.gift(1, 0, 3, 100, false, 10, 20);
        r.gift(2, 0, 2, 100, false, 10, 20);
        r.back(0, 105);
        if (law(r, 0, text) < 0) {
            return -99;
        }
        return (r.judged(0, 0, 1) + 1) * 100 + (r.judged(1, 0, 1) + 1) * 10 + r.judged(2, 0, 1) + 1;
    }

    private static void judging() {
        where = "20 judged";
        is("gift", ruleBy("tell if gift;"), 0);
        is("meal", ruleBy("tell if meal;"), 100);
        is("journey", ruleBy("tell if journey;"), 1);
        is("share", ruleBy("tell if share;"), 10);
        is("foreign", ruleBy("tell if foreign;"), 100);
        is("kin", ruleBy("tell if kin;"), 10);
        is("kin 0", ruleBy("tell if kin;kin 0;"), 0);
        is("back by 30 days", ruleBy("tell if back;"), 100);
        is("back by 5", ruleBy("tell within 5 if back;"), 100);
        is("back by 4", ruleBy("tell within 4 if back;"), 0);
        is("back by another tell", ruleBy("tell within 4 if back;tell within 5 if back;"), 200);
        is("least", ruleBy("tell if least>10;"), 0);
        is("least", ruleBy("tell if least>9;"), 111);
        is("least", ruleBy("tell if least=10;"), 111);
        is("most", ruleBy("tell if most<20;"), 0);
        is("most", ruleBy("tell if most<21;"), 111);
        is("sum", ruleBy("tell if sum=10;"), 111);
        is("count", ruleBy("tell if count=1;"), 111);
        is("count", ruleBy("tell if count>1;"), 0);
        is("the first that holds", ruleBy("tell if meal;tell if share or meal;tell if not gift;"), 123);
        is("and binds closer", ruleBy("tell if meal or share and foreign;"), 100);
        is("and binds closer ahead, too", ruleBy("tell if foreign and share or meal;"), 100);
        is("brackets", ruleBy("tell if (meal or share) and not foreign;"), 10);
        is("not binds closest", ruleBy("tell if not meal and share;"), 10);
        is("not of brackets", ruleBy("tell if not(meal or share);"), 1);
        is("not not", ruleBy("tell if not not meal;"), 100);
        is("seven digits", ruleBy("tell if most<0000020 or most>9999998;"), 0);
        is("seven digits", ruleBy("tell if most=0000020;"), 111);
        is("seven digits", ruleBy("tell if not most<1000000;"), 0);
        is("no tell", ruleBy("sit if kin;"), 0);
        is("deep", ruleBy("tell if " + "(gift or ".repeat(9) + "meal" + ")".repeat(9) + ";"), 100);
        is("deep with and waiting", ruleBy("tell if " + "foreign or foreign and(".repeat(18) + "share" + ")".repeat(18) + ";"), 100);

        GiftRegister r = with(2, 1);
        law(r, 0, "tell within 10 if least > 99;");
        r.gift(2, 0, 0, 5, false, 99, 200);
        r.gift(2, 0, 0, 5, false, 100, 200);
        is("need not", r.judged(0, 0, 0), 0);
        is("no rule", r.judged(0, 0, 1), -1);
        is("not due", r.judged(0, 0, 2), -1);
        is("rule", r.judged(1, 0, 1), 0);
        is("due", r.judged(1, 0, 2), 15);
        is("not told yet", r.judged(1, 15, 0), 3);
        is("too late", r.judged(1, 16, 0), 4);
        r.next(15);
        r.tell(0);
        r.tell(1);
        is("need not, though told", r.judged(0, 20, 0), 0);
        is("told in time", r.judged(1, 15, 0), 1);
        is("told in time, later on", r.judged(1, 9999, 0), 1);
        is("not told as of the day ahead", r.judged(1, 14, 0), 3);
        r.next(1);
        r.gift(2, 0, 0, 5, false, 100, 200);
        r.tell(2);
        is("told too late", r.judged(2, 16, 0), 2);
        r.worth(0, 100, 100);
        is("by its worth as known", r.judged(0, 16, 0), 1);
        is("as it was", r.judged(0, 15, 0), 0);
        r.gift(2, 1, 0, 9995, false, 100, 200);
        is("due behind the last day", r.judged(3, 16, 2), 10005);

        GiftRegister kin = with(3, 1);
        law(kin, 0, "tell if kin;kin 2;");
        kin.kin(0, 1, 0, 50);
        kin.kin(1, 2, 0, -1);
        kin.gift(2, 0, 0, 49, false, 1, 1);
        kin.gift(2, 0, 0, 50, false, 1, 1);
        is("kin on its day", kin.judged(0, 0, 1), 0);
        is("kin no more", kin.judged(1, 0, 1), -1);

        GiftRegister back = with(1, 1);
        law(back, 0, "tell if not back;");
        back.gift(1, 0, 0, 49, false, 1, 1);
        back.next(3);
        back.back(0, 50);
        is("given back as of then", back.judged(0, 3, 1), -1);
        is("not known ahead", back.judged(0, 2, 1), 0);
    }

    private static void sumAndCount() {
        where = "20 sum and count";
        GiftRegister r = with(4, 4);
        // 4 and 5 are of one group under person 3, 6 and 7 are alone; 0 and 1 are kin of degree 1, 2 of degree 2.
        r.owns(3, 4, 6000, 0, -1);
        r.owns(3, 5, 6000, 0, 200);
        r.kin(0, 1, 0, -1);
        r.kin(1, 2, 0, -1);
        r.gift(4, 0, 0, 100, false, 1, 9);
        is("itself", r.judged(0, 0, 7), 1);
        is("itself", r.judged(0, 0, 8), 1);
        r.gift(5, 0, 0, 100, false, 2, 9);
        is("of the group, on its day", r.judged(0, 0, 7), 3);
        r.gift(3, 0, 0, 99, false, 4, 9);
        is("of the head", r.judged(0, 0, 7), 7);
        r.gift(6, 0, 0, 99, false, 8, 9);
        is("of another group", r.judged(0, 0, 7), 7);
        r.gift(4, 1, 0, 99, false, 16, 20);
        is("to kin", r.judged(0, 0, 7), 23);
        r.gift(4, 2, 0, 99, false, 32, 90);
        is("to kin of a higher degree", r.judged(0, 0, 7), 23);
        is("seen from between", r.judged(4, 0, 7), 16 + 4 + 32);
        r.gift(4, 0, 0, 101, false, 64, 90);
        is("of a later day", r.judged(0, 0, 7), 23);
        r.gift(4, 0, 0, 0, false, 128, 900);
        is("of the year", r.judged(0, 0, 7), 151);
        is("how many", r.judged(0, 0, 8), 5);
        law(r, 0, "year 100;kin 2;");
        is("of a shorter year, wider kin", r.judged(0, 0, 7), 23 + 32);
        law(r, 0, "year 101;kin 0;");
        is("of a year by one longer, no kin", r.judged(0, 0, 7), 7 + 128);
        r.next(1);
        r.back(7, 100);
        is("given back on the day", r.judged(0, 1, 7), 7);
        is("not known", r.judged(0, 0, 7), 135);
        r.back(2, 101);
        is("given back behind the day", r.judged(0, 1, 7), 7);
        is("on a later day", r.judged(6, 1, 7), 1 + 2 + 64);
        r.worth(1, 1000, 1000);
        is("another worth", r.judged(0, 1, 7), 1005);
        r.back(0, 100);
        is("itself given back on its day", r.judged(0, 1, 7), 1004);
        is("how many", r.judged(0, 1, 8), 2);
        r.gift(5, 0, 0, 200, false, 5, 5);
        is("the group on the day asked for", r.judged(8, 1, 8), 2);
    }

    private static void judgedWrong() {
        where = "20 judged, wrong inputs";
        GiftRegister r = with(1, 1);
        r.next(3);
        throwsIt("no gift", () -> r.judged(0, 3, 0));
        r.gift(1, 0, 0, 1, false, 5, 6);
        is("known", r.judged(0, 3, 3), 5);
        throwsIt("not known", () -> r.judged(0, 2, 3));
        throwsIt("t below", () -> r.judged(0, -1, 3));
        throwsIt("gift -1", () -> r.judged(-1, 3, 3));
        throwsIt("gift 1", () -> r.judged(1, 3, 3));
        throwsIt("what -1", () -> r.judged(0, 3, -1));
        throwsIt("what 9", () -> r.judged(0, 3, 9));
        throwsIt("far off", () -> r.judged(MAX, MAX, MAX));
        is("t beyond", r.judged(0, MAX, 4), 6);
    }

    private static void membersAndMatters() {
        where = "21 member";
        GiftRegister r = with(14, 2);
        is("a firm", r.member(14), -1);
        is("nobody", r.member(16), -1);
        is("below", r.member(-1), -1);
        is("first", r.member(3), 1);
        is("twice", r.member(3), -1);
        for (int i = 4; i < 14; i++) {
            is("more", r.member(i), i - 2);
        }
        is("the twelfth", r.member(0), 12);
        is("the thirteenth", r.member(1), -1);
        is("how many", r.count(10), 12);

        where = "22 matter";
        is("nothing", r.matter(16, 0), -1);
        is("below", r.matter(-1, 0), -1);
        is("day -1", r.matter(14, -1), -1);
        is("day 10000", r.matter(14, 10000), -1);
        is("a firm", r.matter(14, 0), 0);
        is("a person", r.matter(0, 9999), 1);
        is("the same again", r.matter(14, 0), 2);
        for (int i = 3; i < 60; i++) {
            is("more", r.matter(15, i), i);
        }
        is("the 61st", r.matter(14, 0), -1);
        is("how many", r.count(7), 60);
    }

    private static void sitting() {
        where = "23 sits";
        GiftRegister r = with(5, 2);
        // 5 belongs to person 0; 0 - 1 - 2 - 3 kin in a row.
        r.owns(0, 5, 6000, 0, 50);
        r.kin(0, 1, 0, -1);
        r.kin(1, 2, 0, -1);
        r.matter(5, 49);
        r.matter(5, 50);
        r.matter(1, 49);
        r.matter(6, 49);
        is("no law", r.sits(0, 0, 0), 0);
        law(r, 0, "sit if kin;");
        is("the head", r.sits(0, 0, 0), 2);
        is("kin of the head", r.sits(0, 1, 0), 2);
        is("too far", r.sits(0, 2, 0), 0);
        is("a head no more", r.sits(1, 0, 0), 0);
        is("about oneself", r.sits(2, 1, 0), 2);
        is("about kin", r.sits(2, 2, 0), 2);
        is("about nobody near", r.sits(2, 4, 0), 0);
        is("about a firm without a head", r.sits(3, 0, 0), 0);
        law(r, 0, "sit if kin;kin 0;may if not kin;");
        is("kin 0: the head alone", r.sits(0, 0, 0), 2);
        is("may", r.sits(0, 1, 0), 1);
        is("one who is no member", r.sits(0, 4, 0), 1);
        law(r, 50, "may if kin;sit if kin;");
        is("must goes ahead of may", r.sits(2, 1, 0), 2);
        law(r, 50, "may if count=0;");
        is("the law for the day", r.sits(1, 0, 0), 1);
        is("not the law for another day", r.sits(2, 1, 0), 2);
        is("no such matter", r.sits(4, 0, 0), -1);
        is("matter -1", r.sits(-1, 0, 0), -1);
        is("a firm", r.sits(0, 5, 0), -1);
        is("nobody", r.sits(0, 7, 0), -1);
        is("person -1", r.sits(0, -1, 0), -1);
        is("t below: no law", r.sits(0, 0, -1), 0);

        GiftRegister s = with(3, 3);
        s.owns(3, 4, 6000, 0, -1);
        s.kin(0, 1, 0, -1);
        s.gift(4, 0, 0, 100, false, 7, 9);
        s.gift(3, 1, 0, 99, false, 5, 9);
        s.gift(5, 0, 0, 99, false, 50, 90);
        s.matter(3, 100);
        s.matter(3, 99);
        law(s, 0, "sit if sum=12;may if count=1;");
        is("sum of the group to kin", s.sits(0, 0, 0), 2);
        is("the same for kin", s.sits(0, 1, 0), 2);
        is("the day ahead", s.sits(1, 0, 0), 1);
        is("nobody's", s.sits(0, 2, 0), 0);
        s.back(1, 99);
        is("given back", s.sits(0, 0, 0), 1);
        is("given back", s.sits(1, 0, 0), 0);
    }

    private static void sittingByPart() {
        where = "23 sits by parts";
        GiftRegister r = with(4, 3);
        r.kin(0, 1, 0, -1);
        r.kin(1, 2, 0, -1);
        r.owns(0, 4, 3333, 0, -1);
        r.owns(4, 5, 3333, 0, -1);
        r.owns(2, 5, 400, 0, -1);
        r.owns(1, 5, 70, 0, -1);
        r.matter(5, 10);
        r.matter(1, 10);
        law(r, 0, "sit if part=1110;may if kinpart=1110;");
        is("cut", r.sits(0, 0, 0), 2);
        is("of kin", r.sits(0, 1, 0), 1);
        is("too far", r.sits(0, 2, 0), 0);
        law(r, 0, "sit if part=70 and kinpart=1110;may if part=400 and kinpart=70;");
        is("the greatest of kin, not one's own", r.sits(0, 1, 0), 2);
        is("own and kin's", r.sits(0, 2, 0), 1);
        law(r, 0, "kin 2;sit if kinpart=400;may if kinpart=1110 and part=400;");
        is("wider kin", r.sits(0, 0, 0), 2);
        is("wider kin", r.sits(0, 2, 0), 1);
        law(r, 0, "kin 0;sit if kinpart=0 and part=1110;may if part=0;");
        is("no kin", r.sits(0, 0, 0), 2);
        is("no part", r.sits(0, 3, 0), 1);
        law(r, 0, "sit if part=10000;may if part<1;");
        is("oneself", r.sits(1, 1, 0), 2);
        is("another one", r.sits(1, 0, 0), 1);
    }

    private static void posts() {
        where = "23 sits by posts";
        GiftRegister r = with(3, 3);
        // 3 controls 4; 5 stands alone.
        r.owns(3, 4, 6000, 0, -1);
        r.matter(3, 100);
        law(r, 0, "sit if post;old 10;");
        r.post(0, 4, 100, 100);
        is("on the day, in the group", r.sits(0, 0, 0), 2);
        r.post(1, 4, 101, -1);
        is("behind the day", r.sits(0, 1, 0), 0);
        r.post(1, 5, 0, -1);
        is("at another group", r.sits(0, 1, 0), 0);
        r.post(1, 3, 50, 89);
        is("ended eleven days ahead", r.sits(0, 1, 0), 0);
        r.next(2);
        r.post(1, 3, 50, 90);
        is("ended ten days ahead", r.sits(0, 1, 2), 2);
        is("not known", r.sits(0, 1, 1), 0);
        r.post(2, 3, 0, -1);
        is("on and on", r.sits(0, 2, 2), 2);
        law(r, 0, "sit if post;old 0;");
        is("no day old", r.sits(0, 1, 2), 0);
        is("on the day", r.sits(0, 0, 2), 2);
        law(r, 0, "sit if post;");
        is("365 days without a number", r.sits(0, 1, 2), 2);
        r.matter(3, 100 + 365);
        r.matter(3, 101 + 365);
        is("the last of them", r.sits(1, 0, 2), 2);
        is("no more", r.sits(2, 0, 2), 0);
    }

    private static void quorums() {
        where = "24 quorum";
        GiftRegister r = with(4, 1);
        r.kin(0, 1, 0, -1);
        r.matter(0, 10);
        is("nobody", r.quorum(0, 0), 0);
        r.member(0);
        r.member(1);
        r.member(2);
        is("all", r.quorum(0, 0), 3);
        law(r, 5, "quorum 2;may if kin;");
        is("those who may count", r.quorum(0, 0), 1);
        r.next(1);
        law(r, 6, "quorum 12;sit if kin;");
        is("too few", r.quorum(0, 1), -11);
        is("as it was known", r.quorum(0, 0), 1);
        is("ahead of all", r.quorum(0, -1), 3);
        is("no such matter", r.quorum(1, 0), -100);
        is("matter -1", r.quorum(-1, 0), -100);
        is("far off", r.quorum(MAX, MAX), -100);
    }

    private static void entries() {
        where = "25 entry";
        GiftRegister r = with(2, 1);
        party(r, "paa", 1);
        party(r, "pab", 0);
        is("no giver", entry(r, "x", 5, 0, 0), -1);
        is("tape empty behind a refusal", r.count(11), 0);
        is("giver -1", entry(r, "x", -1, 0, 0), -1);
        is("no name", entry(r, "", 0, 0, 0), -1);
        is("bad name", entry(r, "x y", 0, 0, 0), -1);
        is("long name", entry(r, "abcdefghijklm", 0, 0, 0), -1);
        is("day -1", entry(r, "x", 0, -1, 0), -1);
        is("day 10000", entry(r, "x", 0, 10000, 0), -1);
        is("worth -1", entry(r, "x", 0, 0, -1), -1);
        is("worth 1000001", entry(r, "x", 0, 0, 1000001), -1);
        r.next(2);
        is("by a person, of nobody", entry(r, "x", 0, 9999, 1000000), 0);
        is("by a firm, of one", entry(r, "paa", 2, 0, 0), 1);
        is("of two", entry(r, "pab", 2, 0, 0), 2);
        is("tape empty", r.count(11), 0);

        where = "27 entered";
        is("a gap", r.entered(0, 2, 0), -1);
        is("nobody: in doubt", r.entered(0, 2, 1), 1);
        is("nobody", r.entered(0, 2, 2), 0);
        is("one: no doubt", r.entered(1, 2, 1), 0);
        is("one, a firm's name doesn't count", r.entered(1, 2, 2), 1);
        is("two: in doubt", r.entered(2, 2, 1), 1);
        is("two", r.entered(2, 2, 2), 2);
        throwsIt("not known", () -> r.entered(0, 1, 0));
        throwsIt("none such", () -> r.entered(3, 2, 0));
        throwsIt("entry -1", () -> r.entered(-1, 2, 0));
        throwsIt("what -1", () -> r.entered(0, 2, -1));
        throwsIt("what 3", () -> r.entered(0, 2, 3));
        throwsIt("t below", () -> r.entered(0, MIN, 2));
        where = "25 entry";
        for (int i = 3; i < 100; i++) {
            is("row " + i, entry(r, "x", 0, 0, 0), i);
        }
        is("the 101st", entry(r, "x", 0, 0, 0), -1);
        is("tape empty when full", r.count(11), 0);
        is("how many", r.count(8), 100);
    }

    /** How many entries are joined of one by the giver, of the name, day and worth, beside a gift of 10 to 20 from 3 to 0 on day 100. */
    private static int fitsOne(String name, int giver, int day, int worth) {
        GiftRegister r = with(2, 3);
        r.owns(2, 3, 6000, 0, 100);
        r.gift(3, 0, 0, 100, false, 10, 20);
        r.tell(0);
        entry(r, name, giver, day, worth);
        return r.joined(0);
    }

    private static void joining() {
        where = "26 joined";
        is("fits", fitsOne("paa", 3, 100, 10), 1);
        is("most", fitsOne("paa", 3, 100, 20), 1);
        is("below", fitsOne("paa", 3, 100, 9), 0);
        is("beyond", fitsOne("paa", 3, 100, 21), 0);
        is("three days ahead", fitsOne("paa", 3, 97, 15), 1);
        is("three days behind", fitsOne("paa", 3, 103, 15), 1);
        is("four days ahead", fitsOne("paa", 3, 96, 15), 0);
        is("four days behind", fitsOne("paa", 3, 104, 15), 0);
        is("another name", fitsOne("pab", 3, 100, 15), 0);
        is("another giver", fitsOne("paa", 4, 100, 15), 0);
        is("of the group on the entry's day", fitsOne("paa", 2, 99, 15), 1);
        is("a group no more", fitsOne("paa", 2, 100, 15), 0);

        GiftRegister r = with(2, 2);
        is("no entries", r.joined(0), 0);
        entry(r, "paa", 2, 50, 10);
        is("no gifts", r.joined(0), 0);
        r.next(1);
        r.gift(2, 0, 0, 50, false, 10, 10);
        is("not told", r.joined(1), 0);
        r.next(1);
        r.tell(0);
        is("told", r.joined(2), 1);
        is("as it was", r.joined(1), 0);
        is("which", r.entered(0, 2, 0), 0);
        is("which, as it was", r.entered(0, 1, 0), -1);
        entry(r, "paa", 2, 50, 10);
        is("one gift, two entries", r.joined(2), 1);
        is("the first has it", r.entered(0, 2, 0), 0);
        is("the second is a gap", r.entered(1, 2, 0), -1);
        r.next(1);
        r.worth(0, 11, 11);
        is("another worth", r.joined(3), 0);
        r.gift(2, 0, 0, 47, false, 10, 10);
        r.tell(1);
        is("another gift", r.joined(3), 1);
        is("which", r.entered(0, 3, 0), 1);
        is("t below", r.joined(-1), 0);
        is("t beyond", r.joined(MAX), 1);
    }

    private static void joiningFirst() {
        where = "26 the first joining";
        GiftRegister r = with(2, 2);
        // Gifts of worths 10, 20, 30; entries that fit by worth alone, made wide by the gifts' ranges.
        r.gift(2, 0, 0, 50, false, 10, 40);
        r.gift(2, 0, 0, 50, false, 10, 20);
        r.gift(2, 0, 0, 50, false, 30, 40);
        for (int g = 0; g < 3; g++) {
            r.tell(g);
        }
        entry(r, "paa", 2, 50, 10);
        entry(r, "paa", 2, 50, 15);
        is("both", r.joined(0), 2);
        is("the least gift", r.entered(0, 0, 0), 0);
        is("the next", r.entered(1, 0, 0), 1);
        entry(r, "paa", 2, 50, 25);
        is("three, so that the most are", r.joined(0), 2);
        is("the first keeps the least", r.entered(0, 0, 0), 0);
        is("the second", r.entered(1, 0, 0), 1);
        is("the third must be a gap", r.entered(2, 0, 0), -1);
        entry(r, "paa", 2, 50, 35);
        is("the fourth", r.joined(0), 3);
        is("has the last", r.entered(3, 0, 0), 2);

        GiftRegister s = with(2, 2);
        s.gift(2, 0, 0, 50, false, 10, 30);
        s.gift(2, 0, 0, 50, false, 10, 20);
        s.tell(0);
        s.tell(1);
        entry(s, "paa", 2, 50, 15);
        entry(s, "paa", 2, 50, 25);
        is("two", s.joined(0), 2);
        is("the first yields, so that both are", s.entered(0, 0, 0), 1);
        is("the second", s.entered(1, 0, 0), 0);

        // Entries fit 0 1 | 0 | 1: the first keeps 0, so the second, not the third, is the gap.
        GiftRegister gap = with(2, 2);
        gap.gift(2, 0, 0, 50, false, 10, 20);
        gap.gift(2, 0, 0, 50, false, 20, 30);
        gap.tell(0);
        gap.tell(1);
        entry(gap, "paa", 2, 50, 20);
        entry(gap, "paa", 2, 50, 10);
        entry(gap, "paa", 2, 50, 30);
        is("two of three", gap.joined(0), 2);
        is("the first", gap.entered(0, 0, 0), 0);
        is("a gap", gap.entered(1, 0, 0), -1);
        is("the third", gap.entered(2, 0, 0), 1);

        // Entries fit 0 1 2 | 0 | 1 2: the first can't keep 0, the second needs it; 1 is the least that is left.
        GiftRegister way = with(2, 2);
        way.gift(2, 0, 0, 50, false, 10, 20);
        way.gift(2, 0, 0, 50, false, 20, 30);
        way.gift(2, 0, 0, 50, false, 20, 30);
        for (int g = 0; g < 3; g++) {
            way.tell(g);
        }
        entry(way, "paa", 2, 50, 20);
        entry(way, "paa", 2, 50, 10);
        entry(way, "paa", 2, 50, 30);
        is("three", way.joined(0), 3);
        is("the least that may be", way.entered(0, 0, 0), 1);
        is("the only one", way.entered(1, 0, 0), 0);
        is("what is left", way.entered(2, 0, 0), 2);

        GiftRegister most = with(1, 1);
        for (int g = 0; g < 100; g++) {
            most.gift(1, 0, 0, 50, false, g, 100);
            most.tell(g);
        }
        for (int e = 0; e < 100; e++) {
            entry(most, "paa", 1, 50, e);
        }
        is("a hundred", most.joined(0), 100);
        is("each but its own", most.entered(37, 0, 0), 37);
        is("the last", most.entered(99, 0, 0), 99);

        GiftRegister high = with(1, 1);
        for (int g = 0; g < 120; g++) {
            high.gift(1, 0, 0, g < 100 ? 500 : 50, false, 10, g == 119 ? 10 : 20);
            high.tell(g);
        }
        for (int e = 0; e < 21; e++) {
            entry(high, "paa", 1, 50, e < 20 ? 10 : 11);
        }
        is("gifts of high numbers", high.joined(0), 20);
        is("rising", high.entered(18, 0, 0), 118);
        is("the last one", high.entered(19, 0, 0), 119);
        is("then none", high.entered(20, 0, 0), -1);
    }

    private static void votes() {
        where = "28 vote";
        GiftRegister r = with(3, 1);
        r.member(1);
        is("no matter", r.vote(0, 1, true), -1);
        r.matter(3, 10);
        is("no member", r.vote(0, 0, true), -1);
        is("a firm", r.vote(0, 3, true), -1);
        is("nobody", r.vote(0, 4, true), -1);
        is("person -1", r.vote(0, -1, true), -1);
        is("matter -1", r.vote(-1, 1, true), -1);
        is("for", r.vote(0, 1, true), 0);
        is("twice", r.vote(0, 1, false), -1);
        r.matter(3, 10);
        r.next(1);
        is("in another matter", r.vote(1, 1, false), 1);
        r.member(2);
        is("another member", r.vote(0, 2, false), 2);
        is("how many", r.count(9), 3);

        where = "29 links";
        is("known", r.links(1, 0), 3);
        is("known ahead", r.links(0, 0), 1);
        is("none", r.links(-1, 0), 0);
        is("for", r.links(1, 1), 1);
        is("warm", r.links(1, 2), 0);
        is("links", r.links(1, 3), 0);
        is("what -1", r.links(1, -1), -1);
        is("what 4", r.links(1, 4), -1);

        where = "28 vote";
        GiftRegister full = with(12, 1);
        for (int i = 0; i < 12; i++) {
            full.member(i);
        }
        for (int m = 0; m < 17; m++) {
            full.matter(12, m);
        }
        for (int i = 0; i < 200; i++) {
            is("row " + i, full.vote(i / 12, i % 12, i % 2 == 0), i);
        }
        is("the 201st", full.vote(16, 8, true), -1);
        is("how many", full.count(9), 200);
        throwsIt("too many for a chance", () -> full.chance(0, 0));
    }

    /** How many warm votes there are of one in a matter about 2 on day 100, with a gift from the giver on the day, given back on another. */
    private static int warmBy(String law, int giver, int day, int backOn) {
        GiftRegister r = with(2, 3);
        r.owns(2, 3, 6000, 0, 101);
        r.owns(2, 3, 3000, 101, -1);
        r.member(0);
        r.matter(2, 100);
        r.vote(0, 0, true);
        law(r, 0, law);
        r.gift(giver, 0, 0, day, false, 1, 1);
        r.gift(2, 1, 0, 100, false, 1, 1);
        if (backOn >= 0) {
            r.back(0, backOn);
        }
        return r.links(0, 2);
    }

    private static void warmth() {
        where = "29 warm";
        is("on the day", warmBy("", 2, 100, -1), 1);
        is("the day behind", warmBy("", 2, 101, -1), 0);
        is("of the group on the day", warmBy("", 3, 100, -1), 1);
        is("of another group", warmBy("", 4, 100, -1), 0);
        is("the first of 90 days", warmBy("", 2, 11, -1), 1);
        is("ahead of the 90 days", warmBy("", 2, 10, -1), 0);
        is("one day", warmBy("link 1;", 2, 100, -1), 1);
        is("ahead of one day", warmBy("link 1;", 2, 99, -1), 0);
        is("given back ahead", warmBy("", 2, 90, 99), 0);
        is("given back on the day", warmBy("", 2, 90, 100), 1);

        GiftRegister r = with(3, 1);
        r.member(0);
        r.member(1);
        r.member(2);
        r.matter(3, 10);
        r.vote(0, 0, true);
        r.vote(0, 1, false);
        r.vote(0, 2, true);
        r.next(1);
        r.gift(3, 0, 0, 10, false, 1, 1);
        r.gift(3, 1, 0, 9, false, 1, 1);
        is("two warm", r.links(1, 2), 2);
        is("one of them for", r.links(1, 3), 1);
        is("not known ahead", r.links(0, 2), 0);
        is("two for", r.links(0, 1), 2);
    }

    private static void chances() {
        where = "30 chance";
        GiftRegister r = with(12, 1);
        is("no votes: upper", r.chance(0, 0), 1);
        is("no votes: lower", r.chance(0, 1), 1);
        for (int i = 0; i < 12; i++) {
            r.member(i);
        }
        for (int m = 0; m < 6; m++) {
            r.matter(12, 10);
        }
        // Five votes, three for; two warm, both for: 3 of 10 drawings.
        for (int i = 0; i < 5; i++) {
            r.vote(0, i, i < 3);
        }
        is("no warm one", r.chance(0, 0), 1);
        r.next(1);
        r.gift(12, 0, 0, 10, false, 1, 1);
        r.gift(12, 1, 0, 10, false, 1, 1);
        is("upper", r.chance(1, 0), 3);
        is("lower", r.chance(1, 1), 10);
        r.next(1);
        r.gift(12, 4, 0, 10, false, 1, 1);
        // Three warm, two of them for: (3 * 2 + 1) of 10.
        is("upper", r.chance(2, 0), 7);
        is("lower", r.chance(2, 1), 10);
        is("as it was", r.chance(1, 0), 3);
        is("ahead of all", r.chance(-1, 0) * 10 + r.chance(-1, 1), 11);
        throwsIt("what -1", () -> r.chance(2, -1));
        throwsIt("what 2", () -> r.chance(2, 2));
        r.next(1);
        for (int i = 5; i < 60; i++) {
            r.vote(i / 12, i % 12, i % 2 == 0);
        }
        is("sixty", r.links(3, 0), 60);
        is("sixty: not thrown", r.chance(3, 0) > 0 ? 1 : 0, 1);
        r.next(1);
        r.vote(5, 0, true);
        throwsIt("sixty-one", () -> r.chance(4, 0));
        is("as it was", r.chance(3, 1) > 0 ? 1 : 0, 1);

        GiftRegister half = with(12, 1);
        for (int i = 0; i < 12; i++) {
            half.member(i);
        }
        for (int m = 0; m < 5; m++) {
            half.matter(12, 10);
        }
        for (int i = 0; i < 60; i++) {
            half.vote(i / 12, i % 12, i < 30);
        }
        half.gift(12, 0, 0, 10, false, 1, 1);
        // Five votes are warm, three of them for, thirty of sixty for: by hand (C(5,3)C(55,27) + C(5,4)C(55,26) + C(55,25)) / C(60,30).
        is("half: warm", half.links(0, 2), 5);
        is("half: links", half.links(0, 3), 3);
        is("half: one in two", half.chance(0, 0) * 10 + half.chance(0, 1), 12);
    }

    private static void asking() {
        where = "31 asked";
        GiftRegister r = with(3, 3);
        law(r, 0, "tell within 5 if gift;");
        r.gift(3, 0, 0, 0, false, 10, 20);
        r.gift(3, 0, 0, 0, false, 100, 200);
        r.gift(3, 0, 1, 0, false, 1000, 2000);
        r.gift(3, 0, 0, 3, false, 10000, 20000);
        r.gift(3, 1, 0, 3, false, 1, 2);
        r.tell(0);
        r.next(6);
        r.tell(1);
        r.tell(2);
        is("known", r.asked(0, 6, 0), 4);
        is("told", r.asked(0, 6, 1), 3);
        is("told too late", r.asked(0, 6, 2), 1);
        is("not told, not due", r.asked(0, 8, 3), 0);
        is("not told, too late", r.asked(0, 9, 3), 1);
        is("not told, as it was", r.asked(0, 5, 3), 0);
        is("sum of those told", r.asked(0, 6, 4), 1110);
        is("sum as it was", r.asked(0, 5, 4), 10);
        r.worth(0, 11, 12);
        is("by the latest worth", r.asked(0, 6, 4), 1111);
        is("another one's", r.asked(1, 6, 0), 1);
        is("nobody's", r.asked(2, 6, 0), 0);
        is("t below", r.asked(0, -1, 0), 0);
        r.owns(0, 3, 3333, 7, 9);
        r.owns(3, 4, 3333, 0, -1);
        r.owns(0, 4, 3000, 8, -1);
        is("no part on the day", r.asked(0, 6, 5), 0);
        is("a part", r.asked(0, 7, 5), 3333);
        is("cut, of both", r.asked(0, 8, 5), 4110);
        is("later", r.asked(0, 9, 5), 3000);
        is("nobody's part", r.asked(2, 8, 5), 0);
        is("t below", r.asked(0, -1, 5), 0);
        is("a firm", r.asked(3, 6, 0), -1);
        is("nobody", r.asked(6, 6, 0), -1);
        is("person -1", r.asked(-1, 6, 0), -1);
        is("what -1", r.asked(0, 6, -1), -1);
        is("what 6", r.asked(0, 6, 6), -1);
    }

    private static void counting() {
        where = "32 count";
        GiftRegister r = with(3, 2);
        r.next(9);
        r.owns(0, 3, 5, 0, -1);
        r.owns(0, 3, 5, 0, -1);
        r.kin(0, 1, 0, -1);
        r.post(0, 3, 0, -1);
        r.gift(3, 0, 0, 0, false, 0, 0);
        law(r, 0, "");
        r.matter(3, 0);
        r.matter(3, 0);
        r.matter(3, 0);
        entry(r, "x", 0, 0, 0);
        r.member(0);
        r.vote(0, 0, true);
        r.vote(1, 0, true);
        r.feed(1, 2, 3, 4, 5);
        r.chain(0, 3, 0, 9);
        int[] due = {9, 5, 2, 1, 1, 1, 1, 3, 1, 2, 1, 20, 2};
        for (int what = 0; what < due.length; what++) {
            is("count(" + what + ")", r.count(what), due[what]);
        }
        is("-1", r.count(-1), -1);
        is("13", r.count(13), -1);
        is("far off", r.count(MAX), -1);
        is("far below", r.count(MIN), -1);
    }

    /** No input is too wild: nothing but what the document names is ever thrown, and a call that throws changes nothing. */
    private static void wildInputs() {
        where = "wild inputs";
        int[] wild = {MIN, MIN + 1, -10000, -2, -1, 0, 1, 2, 3, 59, 60, 61, 9999, 10000, 1000001, MAX - 1, MAX};
        GiftRegister r = with(3, 2);
        r.owns(0, 3, 6000, 0, -1);
        r.gift(3, 0, 0, 5, false, 1, 1);
        r.tell(0);
        r.member(0);
        r.matter(3, 5);
        r.vote(0, 0, true);
        law(r, 0, "tell if sum>0;sit if part>0 or kinpart>0 or post or kin;");
        entry(r, "paa", 3, 5, 1);
        for (int a : wild) {
            for (int b : wild) {
                r.owns(a, 3, b, b, a);
                r.owns(0, 3, 1, a, b);
                r.kin(a, b, b, a);
                r.post(a, b, a, b);
                r.gift(a, b, a, b, true, a, b);
                r.gift(3, 0, 0, a, true, b, a);
                r.worth(a, b, a);
                r.back(a, b);
                r.part(a, b, b, a);
                r.chain(a, 3, b, a);
                r.head(a, b, b);
                r.degree(a, b, 5, b);
                r.matter(a, b);
                r.sits(a, b, b);
                r.quorum(a, b);
                r.entry(a, b, a);
                r.vote(a, b, true);
                r.links(a, b);
                r.asked(0, a, b);
                r.asked(a, b, 5);
                guarded(() -> r.judged(a, b, 1));
                guarded(() -> r.judged(0, a, b));
                guarded(() -> r.entered(a, b, 0));
                guarded(() -> r.entered(0, a, b));
                guarded(() -> r.chance(a, b));
                guarded(() -> r.octet(a));
                checks++;
            }
            r.end(a);
            r.party(a);
            r.tell(a);
            r.law(a);
            r.member(a);
            r.joined(a);
            r.count(a);
        }
        is("the day stays", r.count(0), 0);
    }
}
