/**
 * The sentences of 'Terms' about THE ARCHIVE, THREADS, TAGS, QUERY and what it MATCHES: each one that names
 * a boundary case has a method of its own, with the sentence above it.
 */
public final class ArchiveTermsTest {
    private static final Due DUE = new Due();
    private static final int NONE = MailArchive.NONE;

    public static void main(String[] args) {
        archive();
        threads();
        tags();
        query();
        matches();
        DUE.end();
    }

    private static void find(Desk desk, String query, String want) {
        DUE.is("<" + query + ">", desk.find(query), want);
    }

    /** What a query finds in an archive of one mail. */
    private static void findIn(String mail, String query, String want) {
        Desk desk = new Desk();
        desk.add(mail);
        find(desk, query, want);
    }

    /** Adds a mail of that ID ("" for none), those references (with a blank between) and a body. */
    private static int add(Desk desk, String id, String references) {
        return desk.add((id.isEmpty() ? "" : "Message-ID: <" + id + ">\n")
                + (references.isEmpty() ? "" : "References: <" + references.replace(" ", "> <") + ">\n") + "\nw");
    }

    /** Of each message that came its THREAD, PARENT and how many are above it; - for one that has gone. */
    private static void hang(Desk desk, String call, String want) {
        StringBuilder all = new StringBuilder();
        int came = desk.archive().count(1);
        for (int message = 0; message < came; message++) {
            int thread = desk.archive().about(message, 0);
            int parent = desk.archive().about(message, 1);
            all.append(message == 0 ? "" : " ");
            if (thread == NONE) {
                DUE.is(call + ": PARENT of one that has gone", parent, NONE);
                all.append('-');
            } else {
                all.append(thread).append(',').append(parent == NONE ? "-" : "" + parent).append(',')
                        .append(desk.archive().about(message, 2));
            }
        }
        DUE.is(call, all.toString(), want);
    }

    // ---- THE ARCHIVE

    private static void archive() {
        numbered();
    }

    /** "THE ARCHIVE has messages numbered as they come; some have gone." */
    private static void numbered() {
        Desk desk = new Desk();
        DUE.is("the first", desk.add("\na"), 0);
        DUE.is("the second", desk.add("\nb"), 1);
        desk.remove(1);
        DUE.is("a number comes once", desk.add("\nc"), 2);
        desk.remove(0);
        desk.remove(2);
        DUE.is("also when all have gone", desk.add("\nd"), 3);
        find(desk, "", "3");
        DUE.is("d", desk.text(3, 3, 0), "d");
        DUE.is("none of the others", desk.archive().about(2, 8), NONE);
    }

    // ---- THREADS

    private static void threads() {
        inANode();
        ownNode();
        nodeOfEachReference();
        underTheOneBefore();
        underTheLast();
        offFromWhatItWasUnder();
        withoutReferences();
        notUnderItself();
        leastNumber();
        nearestAbove();
        ofThoseThere();
    }

    /** "in order of their numbers: each is in a NODE, that of its ID if none else is in that". */
    private static void inANode() {
        Desk desk = new Desk();
        add(desk, "a", "");
        add(desk, "", "a");
        hang(desk, "an ID that comes first", "0,-,0 0,0,1");
        Desk later = new Desk();
        add(later, "", "a");
        add(later, "a", "");
        hang(later, "an ID that comes later", "0,1,1 0,-,0");
        Desk great = new Desk();
        add(great, "a", "");
        add(great, "", "A");
        hang(great, "other bytes are another ID", "0,-,0 1,-,0");
        Desk sixty = new Desk();
        add(sixty, "i".repeat(60), "");
        add(sixty, "", "i".repeat(60));
        add(sixty, "j".repeat(61), "");
        add(sixty, "", "j".repeat(61));
        hang(sixty, "60 bytes are an ID, 61 are none", "0,-,0 0,0,1 2,-,0 3,-,0");
    }

    /** "else one of its own": an ID that another is in, or no ID. */
    private static void ownNode() {
        Desk desk = new Desk();
        add(desk, "a", "");
        add(desk, "a", "");
        add(desk, "a", "b");
        add(desk, "", "a");
        hang(desk, "the least number is in the ID's", "0,-,0 1,-,0 2,-,0 0,0,1");
        desk.remove(0);
        hang(desk, "then the next", "- 1,-,0 2,-,0 1,1,1");
        desk.remove(1);
        hang(desk, "then that which is under b", "- - 2,-,0 2,2,1");
        Desk none = new Desk();
        add(none, "", "");
        add(none, "", "");
        hang(none, "without an ID each has its own", "0,-,0 1,-,0");
        Desk own = new Desk();
        add(own, "a", "");
        add(own, "a", "a");
        hang(own, "its own is put under that of its ID", "0,-,0 0,0,1");
    }

    /** "there is a node of each ID in REFERENCES", also of one that no message has. */
    private static void nodeOfEachReference() {
        Desk desk = new Desk();
        add(desk, "", "x");
        add(desk, "", "x");
        add(desk, "", "y x");
        add(desk, "", "y");
        hang(desk, "together by nodes without messages", "0,-,0 0,-,0 0,-,0 0,-,0");
        Desk seventeen = new Desk();
        add(seventeen, "", "r0 r1 r2 r3 r4 r5 r6 r7 r8 r9 r10 r11 r12 r13 r14 r15 r16");
        add(seventeen, "r15", "");
        add(seventeen, "r16", "");
        add(seventeen, "r0", "");
        hang(seventeen, "the 16th is above it, the 17th is not", "0,1,2 0,3,1 2,-,0 0,-,0");
        Desk many = new Desk();
        for (int mail = 0; mail < 40; mail++) {
            StringBuilder references = new StringBuilder("r" + mail);
            for (int i = 1; i < 16; i++) {
                references.append(' ').append((char) ('A' + mail)).append((char) ('a' + i));
            }
            many.add("References:<" + references.toString().replace(" ", "><") + ">");
        }
        many.add("Message-ID:<Hb>\nReferences:<Ab>");
        DUE.is("600 nodes and more", many.archive().about(7, 2), 1);
        DUE.is("their THREAD", many.archive().about(7, 0), 0);
        DUE.is("another's THREAD", many.archive().about(39, 0), 39);
        DUE.is("the last's THREAD", many.archive().about(40, 0), 0);
    }

    /** "Of the REFERENCES each one's node is put under that of the one before, if it is under none". */
    private static void underTheOneBefore() {
        Desk desk = new Desk();
        add(desk, "", "a b c");
        add(desk, "c", "");
        add(desk, "b", "");
        add(desk, "a", "");
        hang(desk, "a chain", "0,1,3 0,2,2 0,3,1 0,-,0");
        Desk under = new Desk();
        add(under, "", "a c");
        add(under, "", "b c");
        add(under, "c", "");
        add(under, "a", "");
        add(under, "b", "");
        hang(under, "c is under a already", "0,2,2 0,2,2 0,3,1 0,-,0 4,-,0");
        Desk one = new Desk();
        add(one, "a", "");
        add(one, "", "a");
        hang(one, "a single one is put under none", "0,-,0 0,0,1");
        Desk moved = new Desk();
        add(moved, "c", "a");
        add(moved, "", "b c");
        add(moved, "b", "");
        add(moved, "a", "");
        hang(moved, "c's own REFERENCES put it under a", "0,3,1 0,0,2 2,-,0 0,-,0");
    }

    /** "at last the message's node is put under that of its last one". */
    private static void underTheLast() {
        Desk desk = new Desk();
        add(desk, "a", "");
        add(desk, "b", "");
        add(desk, "c", "a b");
        hang(desk, "the last of two", "0,-,0 0,0,1 0,1,2");
        Desk reply = new Desk();
        add(reply, "a", "");
        add(reply, "b", "");
        reply.add("In-Reply-To: <a> <b>\n\n");
        hang(reply, "In-Reply-To has one", "0,-,0 1,-,0 0,0,1");
    }

    /** "(off from what it was under ..)". */
    private static void offFromWhatItWasUnder() {
        Desk desk = new Desk();
        add(desk, "a", "");
        add(desk, "b", "");
        add(desk, "", "a c d");
        add(desk, "c", "b");
        add(desk, "d", "");
        hang(desk, "c is off from a, with what is under it", "0,-,0 1,-,0 1,4,3 1,1,1 1,3,2");
    }

    /** "(.. without REFERENCES it stays)". */
    private static void withoutReferences() {
        Desk desk = new Desk();
        add(desk, "a", "");
        add(desk, "", "a b");
        add(desk, "b", "");
        hang(desk, "b stays under a", "0,-,0 0,2,2 0,0,1");
        Desk wrong = new Desk();
        add(wrong, "a", "");
        add(wrong, "", "a b");
        wrong.add("Message-ID: <b>\nReferences: x <> <a b>\nIn-Reply-To: y\n\n");
        hang(wrong, "REFERENCES that are none", "0,-,0 0,2,2 0,0,1");
    }

    /** "but none is put under itself, or what is under it". */
    private static void notUnderItself() {
        Desk self = new Desk();
        add(self, "a", "a");
        hang(self, "not under itself", "0,-,0");
        Desk twice = new Desk();
        add(twice, "", "a a");
        add(twice, "a", "");
        hang(twice, "no reference under itself", "0,1,1 0,-,0");
        Desk ring = new Desk();
        add(ring, "a", "b");
        add(ring, "b", "a");
        hang(ring, "b is not put under a, which is under it", "0,1,1 0,-,0");
        Desk three = new Desk();
        add(three, "a", "b");
        add(three, "b", "c");
        add(three, "c", "a");
        hang(three, "c is not put under a, which is under b under it", "0,1,2 0,2,1 0,-,0");
        Desk references = new Desk();
        add(references, "", "a b a");
        add(references, "b", "");
        add(references, "a", "");
        hang(references, "a is not put under b, which is under it", "0,2,1 0,2,1 0,-,0");
        Desk later = new Desk();
        add(later, "a", "b");
        add(later, "", "a b");
        add(later, "b", "");
        hang(later, "b is not put under a by a later message", "0,2,1 0,2,1 0,-,0");
        Desk stays = new Desk();
        add(stays, "", "p b a");
        add(stays, "b", "a");
        add(stays, "a", "");
        add(stays, "p", "");
        hang(stays, "b can't be under a, which is under it: it stays under p", "0,2,3 0,3,1 0,1,2 0,-,0");
        Desk own = new Desk();
        add(own, "b", "a b c");
        add(own, "c", "");
        add(own, "a", "");
        hang(own, "its own ID among its REFERENCES", "0,2,1 0,0,2 0,-,0");
    }

    /** "A message's THREAD is the least number of all messages in the nodes that hang together with it by that". */
    private static void leastNumber() {
        Desk desk = new Desk();
        add(desk, "", "");
        add(desk, "c", "b");
        add(desk, "b", "a");
        add(desk, "a", "");
        add(desk, "d", "a");
        hang(desk, "the least is not the one above all", "0,-,0 1,2,2 1,3,1 1,-,0 1,3,1");
        desk.remove(1);
        hang(desk, "the least of those there", "0,-,0 - 2,3,1 2,-,0 2,3,1");
        Desk sisters = new Desk();
        add(sisters, "", "x");
        add(sisters, "", "y");
        add(sisters, "", "x y");
        hang(sisters, "nodes without messages hang together too", "0,-,0 0,-,0 0,-,0");
    }

    /** "its PARENT the message in the nearest node above that has one". */
    private static void nearestAbove() {
        Desk desk = new Desk();
        add(desk, "a", "");
        add(desk, "d", "a b c");
        hang(desk, "two nodes without messages between", "0,-,0 0,0,1");
        add(desk, "b", "");
        hang(desk, "one of them has one", "0,-,0 0,2,2 0,0,1");
        add(desk, "c", "");
        hang(desk, "both have one", "0,-,0 0,3,3 0,0,1 0,2,2");
        desk.remove(0);
        hang(desk, "the highest has gone", "- 1,3,2 1,-,0 1,2,1");
        Desk none = new Desk();
        add(none, "", "a b c");
        hang(none, "none above has one", "0,-,0");
    }

    /** "of the messages that are there": what one that has gone told is told no more. */
    private static void ofThoseThere() {
        Desk desk = new Desk();
        add(desk, "a", "");
        add(desk, "", "a b");
        add(desk, "", "b");
        hang(desk, "message 1 tells b to be under a", "0,-,0 0,0,1 0,0,1");
        desk.remove(1);
        hang(desk, "nobody tells it", "0,-,0 - 2,-,0");
        Desk first = new Desk();
        add(first, "", "a c");
        add(first, "", "b c");
        add(first, "c", "");
        add(first, "a", "");
        add(first, "b", "");
        first.remove(0);
        hang(first, "then c is under b", "- 1,2,2 1,4,1 3,-,0 1,-,0");
        Desk chain = new Desk();
        for (int i = 0; i < 60; i++) {
            chain.add("Message-ID:<" + i + ">\nReferences:<" + (i - 1) + ">\n\n");
        }
        DUE.is("60 in a chain: the last's THREAD", chain.archive().about(59, 0), 0);
        DUE.is("its PARENT", chain.archive().about(59, 1), 58);
        DUE.is("how many are above it", chain.archive().about(59, 2), 59);
        chain.remove(30);
        DUE.is("one has gone: THREAD, by the ID that is told", chain.archive().about(59, 0), 31);
        DUE.is("29 are above the last", chain.archive().about(59, 2), 28);
        DUE.is("the other end", chain.archive().about(29, 2), 29);
    }

    // ---- TAGS

    private static void tags() {
        tagBytes();
        eightTags();
    }

    /** "TAGS: 1 to 12 bytes a .. z 0 .. 9". */
    private static void tagBytes() {
        for (int b = 0; b < 256; b++) {
            Desk desk = new Desk();
            desk.add();
            boolean good = b >= 'a' && b <= 'z' || b >= '0' && b <= '9';
            DUE.is("byte " + b + " is a TAG", desk.tag(0, true, "" + (char) b), good ? 1 : Desk.REFUSED_ARGUMENT);
            DUE.is("a" + b + "a is a TAG", desk.tag(0, true, "a" + (char) b + "a"), good ? 1 : Desk.REFUSED_ARGUMENT);
            DUE.is("ab" + b + " is a TAG", desk.tag(0, true, "ab" + (char) b), good ? 1 : Desk.REFUSED_ARGUMENT);
        }
        int[] sizes = {0, 1, 11, 12, 13, 14, 20, 1200};
        for (int size : sizes) {
            Desk desk = new Desk();
            desk.add();
            DUE.is("a TAG of " + size, desk.tag(0, true, "t".repeat(size)),
                    size >= 1 && size <= 12 ? 1 : Desk.REFUSED_ARGUMENT);
            DUE.is("on the message", desk.archive().about(0, 4), size >= 1 && size <= 12 ? 1 : 0);
        }
    }

    /** "a message has at most 8." */
    private static void eightTags() {
        Desk desk = new Desk();
        desk.add();
        desk.add();
        for (int i = 7; i >= 0; i--) {
            DUE.is("one of eight", desk.tag(0, true, "t" + i), 1);
        }
        DUE.is("a ninth", desk.tag(0, true, "t8"), Desk.REFUSED_STATE);
        DUE.is("eight", desk.archive().about(0, 4), 8);
        DUE.is("in order", desk.texts(0, 4), "t0 t1 t2 t3 t4 t5 t6 t7");
        DUE.is("the ninth on another", desk.tag(1, true, "t8"), 1);
        DUE.is("different ones", desk.archive().count(4), 9);
        find(desk, "tag:t7", "0");
        find(desk, "tag:t8", "1");
    }

    // ---- QUERY

    private static void query() {
        blanksBetween();
        anyAndAll();
        notOnes();
        behindARefusal();
        parentheses();
        fieldNames();
        whatAFieldIs();
        suchBytes();
        threadDigits();
        days();
        orAndNot();
        phraseSigns();
        twenty();
    }

    private static Desk abc() {
        Desk desk = new Desk();
        desk.add("\na");
        desk.add("\nb");
        desk.add("\na b");
        desk.add("\nc");
        return desk;
    }

    /** "words and signs, perhaps with BLANKS between". */
    private static void blanksBetween() {
        Desk desk = abc();
        find(desk, "  a \t b\t", "2");
        find(desk, "(a)(b)", "2");
        find(desk, "(a)b", "2");
        find(desk, "a(b)", "2");
        find(desk, "a\"b\"", "2");
        find(desk, "\"a\"b", "2");
        find(desk, "\"a\"\"b\"", "2");
        find(desk, "not(a)not\"c\"", "1");
        find(desk, "(a)or(c)", "3 2 0");
        find(desk, "\"a\"and\"b\"", "2");
        find(desk, "tag:x(a", "fault 8");
        // 10 and 13 are no BLANKS, but bytes
        find(desk, "a\nb", "2");
        find(desk, "a\nor\nb", "");
        find(desk, "\n", "3 2 1 0");
        find(desk, "not\ra", "");
    }

    /** "ANY: ALLs with or between; ALL: ONEs with and between, or nothing". */
    private static void anyAndAll() {
        Desk desk = abc();
        find(desk, "a or b", "2 1 0");
        find(desk, "a or b or c", "3 2 1 0");
        find(desk, "a and b", "2");
        find(desk, "a b", "2");
        find(desk, "a b or c", "3 2");
        find(desk, "c or a b", "3 2");
        find(desk, "c or a and b", "3 2");
        find(desk, "a b and c or b", "2 1");
        find(desk, "or", "fault 1");
        find(desk, "and", "fault 1");
        find(desk, "a or", "fault 5");
        find(desk, "a and", "fault 6");
        find(desk, "or a", "fault 1");
        find(desk, "and a", "fault 1");
        find(desk, "a or or b", "fault 6");
        find(desk, "a or and b", "fault 6");
        find(desk, "a and or b", "fault 7");
        find(desk, "a and and b", "fault 7");
        // or, and, not are of small letters
        find(desk, "a AND b", "");
        find(desk, "a OR b", "");
        find(desk, "NOT c", "");
        Desk hundred = abc();
        find(hundred, "c or ".repeat(100) + "a", "3 2 0");
        find(hundred, "a and ".repeat(100) + "b", "2");
    }

    /** "ONE: not ONE". */
    private static void notOnes() {
        Desk desk = abc();
        find(desk, "not a", "3 1");
        find(desk, "not not a", "2 0");
        find(desk, "not a b", "1");
        find(desk, "not (a b)", "3 1 0");
        find(desk, "not a or b", "3 2 1");
        find(desk, "not a not b", "3");
        find(desk, "a and not b", "0");
        find(desk, "not not not (not a)", "2 0");
        find(desk, "not", "fault 4");
        find(desk, "not not", "fault 8");
        find(desk, "not or a", "fault 5");
        find(desk, "not and a", "fault 5");
        find(desk, "not )", "fault 5");
        find(desk, "a not", "fault 6");
        find(desk, "(not) a", "fault 5");
        Desk many = abc();
        find(many, "not ".repeat(200) + "a", "2 0");
        find(many, "not ".repeat(201) + "a", "3 1");
        Desk none = new Desk();
        find(none, "not a", "");
        // sixty messages are all that a not takes from
        Desk full = new Desk();
        for (int i = 0; i < 60; i++) {
            full.add(i == 59 ? "\na" : "\nb");
        }
        DUE.is("not a of sixty", full.search("not a"), 59);
        DUE.is("the last of them", full.archive().found(58), 0);
        DUE.is("a of sixty", full.search("a"), 1);
        DUE.is("the sixtieth", full.archive().found(0), 59);
        DUE.is("all sixty", full.search("a or not a"), 60);
        DUE.is("none", full.search("a not a"), 0);
    }

    /** What was read of a QUERY that is refused is nothing to the next one. */
    private static void behindARefusal() {
        String[] refused = {"not", "not (", "a or", "(a", "b and (", "not (not", "a )", "c or not", "((((", "subject:"};
        String[] next = {"a", "(a)", "((a))", "not a", "a or c"};
        String[] want = {"2 0", "2 0", "2 0", "3 1", "3 2 0"};
        for (String query : refused) {
            Desk desk = abc();
            for (int i = 0; i < next.length; i++) {
                DUE.is("<" + query + ">", desk.search(query), Desk.REFUSED_ARGUMENT);
                find(desk, next[i], want[i]);
            }
        }
    }

    /** "( ANY )". */
    private static void parentheses() {
        Desk desk = abc();
        find(desk, "(a)", "2 0");
        find(desk, "( a or b ) c", "");
        find(desk, "(a or b) (b or c)", "2 1");
        find(desk, "((a) (b)) or (c)", "3 2");
        find(desk, "()", "fault 2");
        find(desk, "( )", "fault 3");
        find(desk, "a ()", "fault 4");
        find(desk, "(", "fault 2");
        find(desk, ")", "fault 1");
        find(desk, "(a", "fault 3");
        find(desk, "a)", "fault 2");
        find(desk, "(a))", "fault 4");
        find(desk, "((a)", "fault 5");
        find(desk, "(a or)", "fault 6");
        find(desk, "(or a)", "fault 2");
    }

    /** "a FIELD (from: to: subject: body: tag: id: thread: date:)"; other names are bytes. */
    private static void fieldNames() {
        Desk desk = new Desk();
        desk.add("From: f\nTo: t\nSubject: s\nMessage-ID: <i>\nDate: 1 Jan 1970 00:05\n\nb");
        desk.tag(0, true, "g");
        find(desk, "from:f to:t subject:s body:b tag:g id:i thread:0 date:19700101..19700101", "0");
        String[] others = {"from:t", "from:s", "from:b", "to:f", "to:s", "to:b", "subject:f", "subject:t", "subject:b", "body:f",
            "body:t", "body:s", "tag:i", "id:g", "thread:1", "date:19700102.."};
        for (String other : others) {
            find(desk, other, "");
        }
        String[] bytes = {"From:f", "FROM:f", "rom:f", "ffrom:f", "from", "from;f", "Tag:g", "cc:f", "tags:g", "ID:i", "Date:x"};
        for (String other : bytes) {
            Desk words = new Desk();
            words.add("\n" + other);
            find(words, other, "0");
        }
    }

    /** "and, without BLANKS, what it is: from, to, subject, body: a PHRASE, or bytes other than BLANKS, ( ) and "". */
    private static void whatAFieldIs() {
        String[] names = {"from:", "to:", "subject:", "body:"};
        for (String name : names) {
            Desk desk = new Desk();
            desk.add("From: a b\nTo: a b\nSubject: a b\n\na b");
            find(desk, name + "a", "0");
            find(desk, name + "\"a b\"", "0");
            find(desk, name + "\"b a\"", "");
            find(desk, name + "\"\"", "0");
            find(desk, name + "*", "0");
            find(desk, name + "a-b", "0");
            find(desk, name, "fault 1");
            find(desk, name + " a", "fault 1");
            find(desk, name + "\ta", "fault 1");
            find(desk, name + "(a)", "fault 1");
            find(desk, name + ")", "fault 1");
            find(desk, name + "\"a", "fault 1");
            find(desk, name + "\"", "fault 1");
            find(desk, "b " + name, "fault 3");
            find(desk, name + "a(b)", "0");
            find(desk, name + "a\"b\"", "0");
            find(desk, name + "\"a\"b", "0");
            find(desk, name + "\"a\"x", "");
            find(desk, name + "a\"", "fault " + (name.length() + 2));
        }
    }

    /** "tag, id: such bytes": at least one, and no PHRASE. */
    private static void suchBytes() {
        String[] names = {"tag:", "id:"};
        for (String name : names) {
            Desk desk = new Desk();
            desk.add("Message-ID: <a>\n\n");
            desk.tag(0, true, "a");
            find(desk, name + "a", "0");
            find(desk, name + "b", "");
            find(desk, name + "A", "");
            find(desk, name + "aa", "");
            find(desk, name + "a*", "");
            find(desk, name + "-", "");
            find(desk, name, "fault 1");
            find(desk, name + " a", "fault 1");
            find(desk, name + "\"a\"", "fault 1");
            find(desk, name + "(a)", "fault 1");
            find(desk, "x " + name + "\"a\"", "fault 3");
            find(desk, name + "a\"\"", "0");
            find(desk, name + "not", "");
            find(desk, name + "a".repeat(300), "");
        }
    }

    /** "thread: 1 to 9 digits". */
    private static void threadDigits() {
        Desk desk = new Desk();
        desk.add();
        desk.add();
        find(desk, "thread:1", "1");
        find(desk, "thread:01", "1");
        find(desk, "thread:000000001", "1");
        find(desk, "thread:000000000", "0");
        find(desk, "thread:999999999", "");
        find(desk, "thread:2", "");
        String[] wrong = {"", "0000000001", "0000000000", "4294967296", "9999999999", "-1", "+1", "1a", "a1", "1-", "/", ":", "\"1\"", "(1)", " 1",
            "1.", "0x1", "*", "1*"};
        for (String what : wrong) {
            find(desk, "thread:" + what, "fault 1");
        }
    }

    /** "date: A..B, A.. or ..B with days of 8 digits, year (0 to 9999), month, day (that are there, by the rules of today)". */
    private static void days() {
        Desk desk = new Desk();
        desk.add("Date: 1 Jan 1970 00:05\n\n");
        find(desk, "date:19700101..19700101", "0");
        find(desk, "date:19700101..", "0");
        find(desk, "date:..19700101", "0");
        find(desk, "date:00000101..99991231", "0");
        find(desk, "date:00000101..00000101", "");
        find(desk, "date:99991231..99991231", "");
        find(desk, "date:00000229..", "0");
        find(desk, "date:..00000229", "");
        find(desk, "date:20000229..20040229", "");
        find(desk, "date:..24000229", "0");
        String mail = "Date: 1 Jan 1970 00:05\n\n";
        String[] good = {"0131", "0228", "0331", "0430", "0531", "0630", "0731", "0831", "0930", "1031", "1130", "1231"};
        String[] wrong = {"0132", "0229", "0332", "0431", "0532", "0631", "0732", "0832", "0931", "1032", "1131", "1232", "0100", "1200",
            "0001", "0000", "1301", "1332", "9999"};
        for (String day : good) {
            findIn(mail, "date:..2023" + day, "0");
            findIn(mail, "date:1969" + day + "..", "0");
        }
        for (String day : wrong) {
            findIn(mail, "date:..2023" + day, "fault 1");
            findIn(mail, "date:1969" + day + "..", "fault 1");
            findIn(mail, "date:19690101..2023" + day, "fault 1");
            findIn(mail, "date:1969" + day + "..20230101", "fault 1");
        }
        String[] noDays = {"", "..", ".", "...", "19700101", "19700101.", "19700101.19700102", "19700101...19700102", "1970101..", "..1970101",
            "019700101..", "..019700101", "19700101..1970010", "9700101..19700101", "19000229..", "..21000229", "1970010x..", "..x9700101",
            "-9700101..", "+9700101..", "19700101..x", "x..19700101", "\"19700101..\"", "(19700101..)", " 19700101..", "19700101,,19700102",
            "19700101. 19700102", "1970:101..", "1970/101..", "19700101..19700102..", "19700101..19700102x", "19700101:.", ".:19700101"};
        for (String what : noDays) {
            findIn(mail, "date:" + what, "fault 1");
        }
    }

    /** "or without a FIELD a PHRASE or such bytes (that are not or, and, not)". */
    private static void orAndNot() {
        Desk desk = new Desk();
        desk.add("Subject: or and not\n\norb andy note OR");
        find(desk, "\"or\" \"and\" \"not\"", "0");
        find(desk, "\"or and not\"", "0");
        find(desk, "subject:or subject:and subject:not", "0");
        find(desk, "orb andy note", "0");
        find(desk, "or* and* not*", "0");
        find(desk, "-or", "0");
        find(desk, "and-not", "0");
        find(desk, "OR And NOT", "0");
        find(desk, "or:", "0");
        find(desk, "or", "fault 1");
        find(desk, "orb and", "fault 8");
        find(desk, "(not)", "fault 5");
    }

    /** "PHRASE: " .. "": from one sign to the next, whatever is between. */
    private static void phraseSigns() {
        Desk desk = new Desk();
        desk.add("\na b c");
        find(desk, "\"a b\"", "0");
        find(desk, "\"(a) b: or c\"", "");
        find(desk, "\"(a) b: c\"", "0");
        find(desk, "\"\"", "0");
        find(desk, "\"\"\"\"", "0");
        find(desk, "\"", "fault 1");
        find(desk, "a \"", "fault 3");
        find(desk, "a\"", "fault 2");
        find(desk, "\"a\" \"b", "fault 5");
        find(desk, "\"\"\"", "fault 3");
        find(desk, "(\"a)\"", "fault 6");
        find(desk, "\"tag:a\"", "");
        find(desk, "\"\t\na\r\"", "0");
        Desk full = new Desk();
        full.add("\na b c");
        find(full, "\"" + " ".repeat(1197) + "a\"", "0");
        find(full, " ".repeat(1199) + "\"", "fault 1200");
        find(full, "\"" + " ".repeat(1199), "fault 1");
    }

    /** "A ( .. ) has at most 20 in one another." */
    private static void twenty() {
        Desk desk = new Desk();
        desk.add("\na");
        for (int n = 1; n <= 20; n++) {
            if (n < 3 || n > 18) {
                find(desk, "(".repeat(n) + "a" + ")".repeat(n), "0");
                find(desk, "(".repeat(n) + "b" + ")".repeat(n), "");
            }
        }
        find(desk, "(".repeat(21) + "a" + ")".repeat(21), "fault 21");
        find(desk, "(".repeat(25) + "a" + ")".repeat(25), "fault 21");
        find(desk, "b or " + "( ".repeat(21) + "a" + ")".repeat(21), "fault 46");
        find(desk, "not(".repeat(20) + "a" + ")".repeat(20), "0");
        find(desk, "not(".repeat(21) + "a" + ")".repeat(21), "fault 84");
        Desk beside = new Desk();
        beside.add("\na");
        find(beside, "(a)".repeat(50), "0");
        find(beside, "((a)".repeat(19) + "(a)" + ")".repeat(19), "0");
        find(beside, "((a)".repeat(20) + "(a)" + ")".repeat(20), "fault 78");
        find(beside, "(".repeat(20) + "a" + ")".repeat(20) + "(".repeat(20) + "a" + ")".repeat(20), "0");
        find(beside, "(".repeat(20) + "a" + ")".repeat(21), "fault 42");
        find(beside, "(".repeat(20) + "a" + ")".repeat(19), "fault 41");
    }

    // ---- MATCHES

    private static void matches() {
        oneBehindTheOther();
        withoutAField();
        star();
        withoutWords();
        theirTag();
        justThatId();
        theirThread();
        bothTakenIn();
        nothingAtAll();
    }

    /** "PHRASE, bytes: the WORDS of them, one behind the other, stand in that field". */
    private static void oneBehindTheOther() {
        Desk desk = new Desk();
        desk.add("\na b a c");
        find(desk, "\"a b a c\"", "0");
        find(desk, "\"a b a c d\"", "");
        find(desk, "\"a c\"", "0");
        find(desk, "\"b c\"", "");
        find(desk, "\"c a\"", "");
        find(desk, "\"A, B!\"", "0");
        find(desk, "a-c", "0");
        find(desk, "b-c", "");
        find(desk, "c", "0");
        find(desk, "\"a a\"", "");
        find(desk, "ab", "");
        Desk sixteen = new Desk();
        sixteen.add("\n" + "a".repeat(20) + " " + "b".repeat(15));
        find(sixteen, "a".repeat(16), "0");
        find(sixteen, "a".repeat(17), "0");
        find(sixteen, "a".repeat(16) + "z", "0");
        find(sixteen, "a".repeat(15), "");
        find(sixteen, "\"" + "A".repeat(30) + " " + "b".repeat(15) + "\"", "0");
        find(sixteen, "b".repeat(16), "");
        Desk whole = new Desk();
        whole.add("Subject:" + " a".repeat(300));
        find(whole, "subject:\"" + "a ".repeat(300) + "\"", "0");
        find(whole, "subject:\"" + "a ".repeat(301) + "\"", "");
        find(whole, "\"" + "a ".repeat(299) + "b\"", "");
    }

    /** "(in SUBJECT or BODY without a FIELD)". */
    private static void withoutAField() {
        Desk desk = new Desk();
        desk.add("From: a\nTo: b\nSubject: c d\n\ne f");
        find(desk, "a", "");
        find(desk, "b", "");
        find(desk, "c", "0");
        find(desk, "f", "0");
        find(desk, "\"c d\"", "0");
        find(desk, "\"e f\"", "0");
        find(desk, "\"d e\"", "");
        find(desk, "d e", "0");
        find(desk, "f*", "0");
    }

    /** "with a * as the last byte of such bytes (not in a PHRASE) the last word only begins so". */
    private static void star() {
        Desk desk = new Desk();
        desk.add("\nday daybreak");
        desk.add("Subject: mondays\n\nthe day");
        find(desk, "day*", "1 0");
        find(desk, "dayb*", "0");
        find(desk, "daybreak*", "0");
        find(desk, "daybreaks*", "");
        find(desk, "ay*", "");
        find(desk, "DAYB*", "0");
        find(desk, "\"dayb*\"", "");
        find(desk, "\"day*\"", "1 0");
        find(desk, "body:\"dayb*\"", "");
        find(desk, "body:dayb*", "0");
        find(desk, "subject:mon*", "1");
        find(desk, "dayb*r", "");
        find(desk, "dayb*-", "");
        find(desk, "*dayb", "");
        find(desk, "dayb**", "0");
        find(desk, "dayb-*", "0");
        find(desk, "day-dayb*", "0");
        find(desk, "da-daybreak*", "");
        find(desk, "the-d*", "1");
        find(desk, "th-day*", "");
        find(desk, "\"dayb\"*", "");
        Desk sixteen = new Desk();
        sixteen.add("\n" + "a".repeat(20));
        find(sixteen, "a".repeat(16) + "*", "0");
        find(sixteen, "a".repeat(18) + "*", "0");
        find(sixteen, "a".repeat(16) + "z*", "0");
        find(sixteen, "a".repeat(15) + "z*", "");
    }

    /** "without WORDS: all messages." */
    private static void withoutWords() {
        Desk desk = new Desk();
        desk.add("");
        desk.add("From: a\n\nb");
        String[] all = {"\"\"", "\" \"", "\"-.!\"", "-", "*", "-*", "**", "from:\"\"", "to:-", "subject:*", "body:\"*\"", "%", ":"};
        for (String query : all) {
            find(desk, query, "1 0");
            find(desk, "not " + query, "");
        }
    }

    /** "tag: that have it." */
    private static void theirTag() {
        Desk desk = new Desk();
        desk.add();
        desk.add();
        desk.tag(0, true, "ab");
        desk.tag(1, true, "a");
        desk.tag(1, true, "ab");
        find(desk, "tag:ab", "1 0");
        find(desk, "tag:a", "1");
        find(desk, "tag:b", "");
        find(desk, "not tag:a", "0");
        desk.tag(1, false, "ab");
        find(desk, "tag:ab", "0");
        desk.tag(1, false, "a");
        find(desk, "tag:a", "");
        desk.remove(0);
        find(desk, "tag:ab", "");
        desk.add();
        find(desk, "tag:ab", "");
        find(desk, "not tag:ab", "2 1");
    }

    /** "id: whose ID is just that." */
    private static void justThatId() {
        Desk desk = new Desk();
        desk.add("Message-ID: <a@B.c>\nReferences: <r>\n\n");
        desk.add("Message-ID: <a@B.c>\n\n");
        desk.add("Message-ID: <>\n\n");
        desk.add("Message-ID: <" + "i".repeat(60) + ">\n\n");
        find(desk, "id:a@B.c", "1 0");
        find(desk, "id:a@b.c", "");
        find(desk, "id:a@B", "");
        find(desk, "id:a@B.cc", "");
        find(desk, "id:<a@B.c>", "");
        find(desk, "id:r", "");
        find(desk, "not id:r", "3 2 1 0");
        find(desk, "id:" + "i".repeat(60), "3");
        find(desk, "id:" + "i".repeat(59), "");
        find(desk, "id:" + "i".repeat(61), "");
        find(desk, "id:never", "");
        find(desk, "not id:never", "3 2 1 0");
    }

    /** "thread: whose THREAD it is." */
    private static void theirThread() {
        Desk desk = new Desk();
        add(desk, "a", "");
        add(desk, "", "");
        add(desk, "", "a");
        find(desk, "thread:0", "2 0");
        find(desk, "thread:1", "1");
        find(desk, "thread:2", "");
        desk.remove(0);
        find(desk, "thread:0", "");
        find(desk, "thread:2", "2");
        add(desk, "a", "");
        find(desk, "thread:2", "3 2");
        find(desk, "thread:3", "");
        find(desk, "not thread:2", "1");
    }

    /** "date: whose DATE (not 0) lies in these days, both taken in." */
    private static void bothTakenIn() {
        Desk desk = new Desk();
        desk.add("Date: 1 Mar 2000 23:59\n\n");
        desk.add("Date: 2 Mar 2000 00:00\n\n");
        desk.add("Date: 3 Mar 2000 23:59:60\n\n");
        desk.add("Date: 4 Mar 2000 00:00\n\n");
        desk.add("\n");
        find(desk, "date:20000302..20000303", "2 1");
        find(desk, "date:20000302..20000302", "1");
        find(desk, "date:20000302..", "3 2 1");
        find(desk, "date:..20000302", "1 0");
        find(desk, "date:20000303..20000302", "");
        find(desk, "date:..20000229", "");
        find(desk, "date:20000305..", "");
        find(desk, "not date:20000302..20000303", "3 0 4");
        Desk zone = new Desk();
        zone.add("Date: 2 Mar 2000 00:30 +0031\n\n");
        zone.add("Date: 1 Mar 2000 23:30 -0030\n\n");
        find(zone, "date:20000301..20000301", "0");
        find(zone, "date:20000302..20000302", "1");
        Desk zero = new Desk();
        zero.add("Date: 1 Jan 1970 00:00\n\n");
        zero.add("Date: x\n\n");
        zero.add("Date: 1 Jan 1970 00:01\n\n");
        zero.add("Date: 1 Jan 1970 00:00 +0001\n\n");
        zero.add("Date: 31 Dec 2999 23:59\n\n");
        find(zero, "date:19700101..19700101", "2");
        find(zero, "date:19691231..19691231", "3");
        find(zero, "date:00000101..99991231", "4 2 3");
        find(zero, "date:..19691231", "3");
        find(zero, "date:..19691230", "");
        find(zero, "date:29991231..", "4");
        find(zero, "date:30000101..", "");
        Desk late = new Desk();
        late.add("Date: 31 Dec 2999 23:59 -0001\n\n");
        find(late, "date:30000101..30000101", "0");
        find(late, "date:29991231..29991231", "");
    }

    /** "Nothing at all (BLANKS alone) matches all." */
    private static void nothingAtAll() {
        Desk desk = new Desk();
        find(desk, "", "");
        desk.add();
        desk.add("Subject: a");
        find(desk, "", "1 0");
        find(desk, " ", "1 0");
        find(desk, "\t \t", "1 0");
        find(desk, " ".repeat(1200), "1 0");
        find(desk, "( )", "fault 3");
        find(desk, "a or ", "fault 6");
    }
}
