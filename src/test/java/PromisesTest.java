import java.lang.reflect.Constructor;
import java.lang.reflect.Field;
import java.lang.reflect.Method;
import java.lang.reflect.Modifier;
import java.util.Arrays;
import java.util.TreeSet;

/**
 * The public face and the promises 1 to 14, sentence by sentence: each sentence that names a boundary case
 * has a method of its own, with the sentence above it.
 */
public final class PromisesTest {
    private static final Due DUE = new Due();
    private static final int NONE = MailArchive.NONE;
    private static final int[] FAR = {Integer.MIN_VALUE, Integer.MIN_VALUE + 1, -1000, -2, -1, 1000, 65536, 1 << 30,
        Integer.MAX_VALUE - 1, Integer.MAX_VALUE};

    public static void main(String[] args) {
        face();
        aNewObject();
        feeding();
        ending();
        adding();
        removing();
        tagging();
        searching();
        faults();
        found();
        conversations();
        threads();
        about();
        at();
        counts();
        lastOf512();
        DUE.end();
    }

    /** A message that has something of all. */
    private static final String WHOLE = "From: f\nTo: t u\nSubject: s =?utf-8?Q?=C3=A9?= v\nMessage-ID: <id@x>\n"
            + "References: <r1> <r22>\nDate: 1 Jan 1970 00:09\n\nb c d e";

    private static void feedWord(MailArchive x, int a) {
        x.feed(a, 0, 0, 0, 0);
    }

    // ---- The public face

    /** "The public face": these members, and no others. */
    private static void face() {
        TreeSet<String> members = new TreeSet<>();
        for (Method method : MailArchive.class.getDeclaredMethods()) {
            if (!Modifier.isPrivate(method.getModifiers()) && !method.isSynthetic()) {
                members.add(method.toString().replace("MailArchive.", "").replace("java.lang.", ""));
            }
        }
        for (Field field : MailArchive.class.getDeclaredFields()) {
            if (!Modifier.isPrivate(field.getModifiers()) && !field.isSynthetic()) {
                members.add(field.toString().replace("MailArchive.", ""));
            }
        }
        for (Constructor<?> constructor : MailArchive.class.getDeclaredConstructors()) {
            if (!Modifier.isPrivate(constructor.getModifiers()) && !constructor.isSynthetic()) {
                members.add(constructor.toString());
            }
        }
        String[] want = {"public MailArchive()", "public boolean tag(int,boolean) throws IndexOutOfBoundsException,"
            + "IllegalArgumentException,IllegalStateException", "public int about(int,int)",
            "public int add() throws IllegalStateException", "public int at(int,int,int,int)", "public int conversations()",
            "public int count(int)", "public int end(int)", "public int fault()", "public int found(int)",
            "public int search() throws IllegalArgumentException", "public int thread(int)", "public static final int NONE",
            "public void feed(int,int,int,int,int)", "public void remove(int) throws IndexOutOfBoundsException"};
        DUE.is("the face", String.join("\n", members), String.join("\n", new TreeSet<>(Arrays.asList(want))));
        DUE.is("the class", Modifier.toString(MailArchive.class.getModifiers()), "public final");
        DUE.is("NONE", MailArchive.NONE, -1);
        for (Class<?> inside : MailArchive.class.getDeclaredClasses()) {
            int modifiers = inside.getModifiers();
            DUE.is(inside + " is static, and not public or protected", Modifier.isStatic(modifiers)
                    && !Modifier.isPublic(modifiers) && !Modifier.isProtected(modifiers), true);
        }
    }

    // ---- Promise 1

    /** "No messages; the tape is empty; nothing is found." */
    private static void aNewObject() {
        MailArchive x = new MailArchive();
        for (int what = 0; what <= 5; what++) {
            DUE.is("new: count(" + what + ")", x.count(what), 0);
        }
        DUE.is("new: found(0)", x.found(0), NONE);
        DUE.is("new: thread(0)", x.thread(0), NONE);
        DUE.is("new: fault()", x.fault(), 0);
        DUE.is("new: conversations()", x.conversations(), 0);
        DUE.is("new: thread(0) behind it", x.thread(0), NONE);
        for (int what = 0; what <= 10; what++) {
            DUE.is("new: about(0, " + what + ")", x.about(0, what), NONE);
            DUE.is("new: at(0, " + what + ", 0, 0)", x.at(0, what, 0, 0), NONE);
        }
        Desk desk = new Desk();
        DUE.is("new: remove(0)", desk.remove(0), Desk.REFUSED_INDEX);
        DUE.is("new: tag of an empty tape", desk.tag(0, true, ""), Desk.REFUSED_INDEX);
        DUE.is("new: search() of an empty tape", desk.search(""), 0);
        DUE.is("new: add() of an empty tape", desk.add(), 0);
        // nothing of one object comes to another
        DUE.is("another new: count(0)", new MailArchive().count(0), 0);
    }

    // ---- Promises 2 and 3

    private static void feeding() {
        highestFirst();
        zerosAtFirst();
        zerosBehindAnEnd();
        zerosAreZero();
        staysBehindARefusal();
        feedInPlaceOfFeed();
    }

    /** "Puts twenty bytes ready, those of a first, the highest of each first." */
    private static void highestFirst() {
        MailArchive x = new MailArchive();
        x.feed(0x4d657373, 0x6167652d, 0x49643a3c, 0x81828384, 0xff7f0180);
        DUE.is("end(20)", x.end(20), 20);
        x.feed(0x80000000, 0x7fffffff, -1, 0x00010203, 0x04053e0a);
        DUE.is("end(20)", x.end(20), 40);
        DUE.is("add()", x.add(), 0);
        int[] want = {0x81, 0x82, 0x83, 0x84, 0xff, 0x7f, 0x01, 0x80, 0x80, 0, 0, 0, 0x7f, 0xff, 0xff, 0xff, 0xff, 0xff, 0xff, 0xff,
            0, 1, 2, 3, 4, 5, NONE};
        DUE.is("its bytes", x.about(0, 9), want.length - 1);
        for (int k = 0; k < want.length; k++) {
            DUE.is("byte " + k, x.at(0, 5, 0, k), want[k]);
        }
        // the first n of them, whatever n is
        int[] letters = {0x61626364, 0x65666768, 0x696a6b6c, 0x6d6e6f70, 0x71727374};
        for (int n = 0; n <= 12; n++) {
            MailArchive y = new MailArchive();
            y.add();
            y.feed(letters[0], letters[1], letters[2], letters[3], letters[4]);
            DUE.is("end(" + n + ")", y.end(n), n);
            if (n > 0) {
                DUE.is("tag of " + n, y.tag(0, true), true);
                DUE.is("its last byte", y.at(0, 4, 0, n - 1), 'a' + n - 1);
                DUE.is("no more", y.at(0, 4, 0, n), NONE);
            }
        }
    }

    /** "(They are 0 at first .." */
    private static void zerosAtFirst() {
        MailArchive x = new MailArchive();
        DUE.is("end(20) of what nobody fed", x.end(20), 20);
        feedWord(x, 0x61000000);
        DUE.is("end(1)", x.end(1), 21);
        x.add();
        DUE.is("one word, the body's", x.about(0, 8), 1);
        DUE.is("a", x.at(0, 3, 0, 0), 'a');
        DUE.is("no 0 before it", x.at(0, 3, 0, 1), NONE);
        Desk desk = new Desk();
        desk.add();
        DUE.is("end(1)", desk.archive().end(1), 1);
        DUE.is("0 is no TAG", desk.tag(0, true, ""), Desk.REFUSED_ARGUMENT);
    }

    /** ".. and behind each end() that answers a number.)" */
    private static void zerosBehindAnEnd() {
        for (int n = 0; n <= 20; n += 4) {
            MailArchive x = new MailArchive();
            x.feed(0x0a202020, 0x20202020, 0x20202020, 0x20202020, 0x20202020);
            x.end(1);
            x.feed(0x61206120, 0x61206120, 0x61206120, 0x61206120, 0x61206120);
            DUE.is("end(" + n + ")", x.end(n), n + 1);
            DUE.is("end(20) behind it", x.end(20), n + 21);
            x.add();
            DUE.is("words of the first end alone", x.about(0, 8), n / 2);
        }
    }

    /** They are 0, and not other bytes that are no words'. */
    private static void zerosAreZero() {
        Desk desk = new Desk();
        desk.type("Message-ID:<");
        DUE.is("end(20) behind an end", desk.archive().end(20), 32);
        DUE.is("end(0)", desk.archive().end(0), 32);
        desk.type("x>");
        desk.add();
        DUE.is("an ID of 20 zeros and an x", desk.archive().about(0, 9), 21);
        for (int k = 0; k < 20; k++) {
            DUE.is("byte " + k, desk.archive().at(0, 5, 0, k), 0);
        }
        DUE.is("x", desk.archive().at(0, 5, 0, 20), 'x');
    }

    /** An end() that answers NONE leaves what is ready. */
    private static void staysBehindARefusal() {
        MailArchive x = new MailArchive();
        x.feed(0x0a616200, 0, 0, 0, 0);
        DUE.is("end(21)", x.end(21), NONE);
        DUE.is("end(-1)", x.end(-1), NONE);
        DUE.is("end(3)", x.end(3), 3);
        DUE.is("end(0)", x.end(0), 3);
        x.add();
        DUE.is("ab", x.at(0, 3, 0, 1), 'b');
        for (int i = 0; i < 60; i++) {
            x.end(20);
        }
        feedWord(x, 0x78000000);
        DUE.is("end(1) of a full tape", x.end(1), NONE);
        x.add();
        DUE.is("end(1)", x.end(1), 1);
        x.tag(0, true);
        DUE.is("x is still ready", x.at(0, 4, 0, 0), 'x');
    }

    /** A feed() puts all twenty ready anew. */
    private static void feedInPlaceOfFeed() {
        MailArchive x = new MailArchive();
        x.add();
        x.feed(0x61616161, 0x61616161, 0x61616161, 0x61616161, 0x61616161);
        x.feed(0x62630000, 0, 0, 0, 0);
        x.end(2);
        DUE.is("tag", x.tag(0, true), true);
        DUE.is("b", x.at(0, 4, 0, 0), 'b');
        x.feed(0x61616161, 0x61616161, 0x61616161, 0x61616161, 0x61616161);
        x.feed(0, 0, 0, 0, 0x7a000000);
        x.end(17);
        x.add();
        DUE.is("nothing of the first feed", x.about(1, 8), 1);
        DUE.is("z", x.at(1, 3, 0, 0), 'z');
    }

    private static void ending() {
        firstN();
        notZeroToTwenty();
        moreThan1200();
    }

    /** "The first n of the bytes that are ready come to the tape: how many it has." */
    private static void firstN() {
        MailArchive x = new MailArchive();
        int all = 0;
        for (int n = 0; n <= 20; n++) {
            all += n;
            x.feed(-1, -1, -1, -1, -1);
            DUE.is("end(" + n + ")", x.end(n), all);
            DUE.is("count(5)", x.count(5), all);
        }
        x.add();
        DUE.is("behind add()", x.end(20), 20);
        try {
            x.search();
        } catch (IllegalArgumentException e) {
            DUE.is("20 bytes 0 are a QUERY", 1, 0);
        }
        DUE.is("behind search()", x.end(3), 3);
    }

    /** "NONE, and nothing comes, if n is not 0 .. 20". */
    private static void notZeroToTwenty() {
        MailArchive x = new MailArchive();
        DUE.is("end(0)", x.end(0), 0);
        DUE.is("end(20)", x.end(20), 20);
        int[] wrong = {-1, -20, 21, 22, 40, 1180, 1200, 1201};
        for (int n : wrong) {
            DUE.is("end(" + n + ")", x.end(n), NONE);
            DUE.is("nothing came", x.count(5), 20);
        }
        for (int n : FAR) {
            DUE.is("end(" + n + ")", x.end(n), NONE);
            DUE.is("nothing came", x.count(5), 20);
        }
    }

    /** "or it would have more than 1200." */
    private static void moreThan1200() {
        for (int last = 1; last <= 20; last++) {
            MailArchive x = new MailArchive();
            for (int i = 0; i < 59; i++) {
                x.end(20);
            }
            DUE.is("end(" + (20 - last) + ")", x.end(20 - last), 1200 - last);
            if (last < 20) {
                DUE.is("one too many", x.end(last + 1), NONE);
                DUE.is("twenty", x.end(20), NONE);
            }
            DUE.is("nothing came", x.count(5), 1200 - last);
            DUE.is("just enough", x.end(last), 1200);
            DUE.is("one more", x.end(1), NONE);
            DUE.is("none more", x.end(0), 1200);
            for (int n : FAR) {
                DUE.is("end(" + n + ") of a full tape", x.end(n), NONE);
            }
            DUE.is("it is full", x.count(5), 1200);
        }
    }

    // ---- Promise 4

    private static void adding() {
        tapeIsAMessage();
        sixtyAreThere();
        twoHundredHaveCome();
    }

    /** "The tape, which is empty then, is a message that comes: its number." */
    private static void tapeIsAMessage() {
        Desk desk = new Desk();
        DUE.is("add()", desk.add("\na"), 0);
        DUE.is("the tape is empty", desk.archive().count(5), 0);
        DUE.is("add() of an empty tape", desk.add(), 1);
        DUE.is("nothing of the one before", desk.archive().about(1, 8), 0);
        DUE.is("add()", desk.add("\nb"), 2);
        DUE.is("b alone", desk.texts(2, 3), "b");
        DUE.is("the first is the same", desk.texts(0, 3), "a");
        DUE.is("there", desk.archive().count(0), 3);
    }

    /** "IllegalStateException: 60 are there .. (the tape stays)." */
    private static void sixtyAreThere() {
        Desk desk = new Desk();
        for (int i = 0; i < 60; i++) {
            DUE.is("add()", desk.add(), i);
        }
        desk.type("\nx");
        for (int i = 0; i < 3; i++) {
            DUE.is("the 61st", desk.add(), Desk.REFUSED_STATE);
            DUE.is("the tape stays", desk.archive().count(5), 2);
            DUE.is("60 are there", desk.archive().count(0), 60);
            DUE.is("60 came", desk.archive().count(1), 60);
        }
        DUE.is("about(60, 0)", desk.archive().about(60, 0), NONE);
        desk.remove(0);
        DUE.is("one has gone: add()", desk.add(), 60);
        DUE.is("what stayed", desk.texts(60, 3), "x");
        DUE.is("60 again", desk.add(), Desk.REFUSED_STATE);
        DUE.is("an empty tape stays so", desk.archive().count(5), 0);
        DUE.is("the last of them is found", desk.find("x"), "60");
        DUE.is("all are found", desk.search(""), 60);
    }

    /** ".. or 200 have come (the tape stays)." */
    private static void twoHundredHaveCome() {
        MailArchive x = new MailArchive();
        for (int i = 0; i < 200; i++) {
            DUE.is("add()", x.add(), i);
            x.remove(i);
        }
        feedWord(x, 0x0a780000);
        x.end(2);
        int refused = 0;
        for (int i = 0; i < 3; i++) {
            try {
                x.add();
            } catch (IllegalStateException e) {
                refused++;
            }
        }
        DUE.is("the 201st, thrice", refused, 3);
        DUE.is("none is there", x.count(0), 0);
        DUE.is("200 came", x.count(1), 200);
        DUE.is("the tape stays", x.count(5), 2);
        DUE.is("about(200, 0)", x.about(200, 0), NONE);
        // the 200th itself comes and can be looked at
        Desk desk = new Desk();
        for (int i = 0; i < 199; i++) {
            desk.add();
            desk.remove(i);
        }
        DUE.is("the 200th", desk.add("\nlast"), 199);
        DUE.is("its word", desk.texts(199, 3), "last");
        DUE.is("its THREAD", desk.archive().about(199, 0), 199);
        DUE.is("it is found", desk.find("thread:199"), "199");
        DUE.is("the 201st", desk.add(), Desk.REFUSED_STATE);
    }

    // ---- Promise 5

    private static void removing() {
        withItsTags();
        notThere();
    }

    /** "A message goes, with its tags." */
    private static void withItsTags() {
        Desk desk = new Desk();
        desk.add(WHOLE);
        desk.add("\nother");
        desk.tag(0, true, "one");
        desk.tag(0, true, "two");
        desk.tag(1, true, "two");
        desk.type("abc");
        DUE.is("remove(0)", desk.remove(0), 0);
        DUE.is("the tape is what it was", desk.archive().count(5), 3);
        DUE.is("there", desk.archive().count(0), 1);
        DUE.is("came", desk.archive().count(1), 2);
        DUE.is("TAGS", desk.archive().count(4), 1);
        DUE.is("words", desk.archive().count(3), 1);
        for (int what = 0; what <= 10; what++) {
            DUE.is("about(0, " + what + ")", desk.archive().about(0, what), NONE);
            DUE.is("at(0, " + what + ", 0, 0)", desk.archive().at(0, what, 0, 0), NONE);
        }
        DUE.is("the other's TAG", desk.texts(1, 4), "two");
        desk.remove(1);
        DUE.is("TAGS", desk.archive().count(4), 0);
        DUE.is("there", desk.archive().count(0), 0);
        // the first, the last and one between go
        Desk five = new Desk();
        for (int i = 0; i < 5; i++) {
            five.add("\nw" + i);
        }
        five.remove(2);
        five.remove(4);
        five.remove(0);
        DUE.is("what is left", five.find(""), "3 1");
        DUE.is("w1", five.texts(1, 3), "w1");
        DUE.is("w3", five.texts(3, 3), "w3");
    }

    /** "IndexOutOfBoundsException: it is not there." */
    private static void notThere() {
        Desk desk = new Desk();
        DUE.is("remove(0) of none", desk.remove(0), Desk.REFUSED_INDEX);
        desk.add();
        desk.add();
        DUE.is("remove(2)", desk.remove(2), Desk.REFUSED_INDEX);
        for (int message : FAR) {
            DUE.is("remove(" + message + ")", desk.remove(message), Desk.REFUSED_INDEX);
        }
        DUE.is("none has gone", desk.archive().count(0), 2);
        desk.remove(0);
        DUE.is("one that has gone", desk.remove(0), Desk.REFUSED_INDEX);
        DUE.is("the other is there", desk.archive().count(0), 1);
        desk.remove(1);
        DUE.is("all have gone", desk.remove(1), Desk.REFUSED_INDEX);
        DUE.is("none is there", desk.archive().count(0), 0);
    }

    // ---- Promise 6

    private static void tagging() {
        whetherItChanged();
        tagOfNone();
        noTag();
        eightOthers();
        whichFirst();
    }

    /** "The tape, which is empty then, is a TAG that is put on a message (or off it): whether that changed something." */
    private static void whetherItChanged() {
        Desk desk = new Desk();
        desk.add();
        desk.add();
        DUE.is("on", desk.tag(0, true, "a"), 1);
        DUE.is("the tape is empty", desk.archive().count(5), 0);
        DUE.is("on again", desk.tag(0, true, "a"), 0);
        DUE.is("the tape is empty", desk.archive().count(5), 0);
        DUE.is("off the other", desk.tag(1, false, "a"), 0);
        DUE.is("the tape is empty", desk.archive().count(5), 0);
        DUE.is("off", desk.tag(0, false, "a"), 1);
        DUE.is("the tape is empty", desk.archive().count(5), 0);
        DUE.is("off again", desk.tag(0, false, "a"), 0);
        DUE.is("off what nobody had", desk.tag(0, false, "never"), 0);
        DUE.is("on once more", desk.tag(0, true, "a"), 1);
        DUE.is("it has one", desk.archive().about(0, 4), 1);
        DUE.is("the other has none", desk.archive().about(1, 4), 0);
        DUE.is("one that begins alike", desk.tag(0, true, "aa"), 1);
        DUE.is("of 12", desk.tag(0, true, "abcdefghijkl"), 1);
        DUE.is("of 12, off", desk.tag(0, false, "abcdefghijkl"), 1);
        DUE.is("what is left", desk.texts(0, 4), "a aa");
    }

    /** "IndexOutOfBoundsException: the message is not there." */
    private static void tagOfNone() {
        Desk desk = new Desk();
        DUE.is("of none", desk.tag(0, true, "a"), Desk.REFUSED_INDEX);
        desk.add();
        desk.add();
        desk.remove(0);
        DUE.is("of one that has gone", desk.tag(0, true, "a"), Desk.REFUSED_INDEX);
        DUE.is("off one that has gone", desk.tag(0, false, "a"), Desk.REFUSED_INDEX);
        DUE.is("of one that never came", desk.tag(2, true, "a"), Desk.REFUSED_INDEX);
        for (int message : FAR) {
            DUE.is("tag(" + message + ", true)", desk.tag(message, true, "a"), Desk.REFUSED_INDEX);
            DUE.is("the tape is empty", desk.archive().count(5), 0);
        }
        DUE.is("TAGS", desk.archive().count(4), 0);
    }

    /** "IllegalArgumentException: it is no TAG." */
    private static void noTag() {
        Desk desk = new Desk();
        desk.add();
        desk.tag(0, true, "a");
        String[] wrong = {"", "abcdefghijklm", "A", "a b", "a-", " a", "a ", "a\n", "\0", "a\0", "\u00e9", "a,b", "tag:a"};
        for (String tag : wrong) {
            DUE.is("<" + tag + "> on", desk.tag(0, true, tag), Desk.REFUSED_ARGUMENT);
            DUE.is("the tape is empty", desk.archive().count(5), 0);
            DUE.is("<" + tag + "> off", desk.tag(0, false, tag), Desk.REFUSED_ARGUMENT);
            DUE.is("the tape is empty", desk.archive().count(5), 0);
        }
        DUE.is("it has what it had", desk.texts(0, 4), "a");
        DUE.is("TAGS", desk.archive().count(4), 1);
    }

    /** "IllegalStateException: it has 8 others, and this one is to be put on." */
    private static void eightOthers() {
        Desk desk = new Desk();
        desk.add();
        for (int i = 0; i < 8; i++) {
            DUE.is("t" + i + " on", desk.tag(0, true, "t" + i), 1);
        }
        DUE.is("a ninth on", desk.tag(0, true, "a"), Desk.REFUSED_STATE);
        DUE.is("the tape is empty", desk.archive().count(5), 0);
        DUE.is("a ninth off", desk.tag(0, false, "a"), 0);
        DUE.is("each of the eight on", desk.tag(0, true, "t0") + desk.tag(0, true, "t7"), 0);
        DUE.is("nothing changed", desk.texts(0, 4), "t0 t1 t2 t3 t4 t5 t6 t7");
        DUE.is("TAGS", desk.archive().count(4), 8);
        DUE.is("nobody has the ninth", desk.find("tag:a"), "");
        DUE.is("one off", desk.tag(0, false, "t3"), 1);
        DUE.is("the ninth on", desk.tag(0, true, "a"), 1);
        DUE.is("eight again", desk.texts(0, 4), "a t0 t1 t2 t4 t5 t6 t7");
        DUE.is("t3 on", desk.tag(0, true, "t3"), Desk.REFUSED_STATE);
    }

    /** Of two that could be thrown it is the one that the document names first. */
    private static void whichFirst() {
        Desk desk = new Desk();
        desk.add();
        for (int i = 0; i < 8; i++) {
            desk.tag(0, true, "t" + i);
        }
        DUE.is("not there, and no TAG", desk.tag(1, true, "A"), Desk.REFUSED_INDEX);
        DUE.is("no TAG, and 8 others", desk.tag(0, true, "A"), Desk.REFUSED_ARGUMENT);
    }

    // ---- Promise 7

    private static void searching() {
        howMany();
        inTheirOrder();
        whatWasFoundStays();
    }

    /** "The tape, which is empty then, is a QUERY: how many messages it MATCHES". */
    private static void howMany() {
        Desk desk = new Desk();
        DUE.is("of none", desk.search("a"), 0);
        desk.add("\na");
        desk.add("\na b");
        DUE.is("two", desk.search("a"), 2);
        DUE.is("the tape is empty", desk.archive().count(5), 0);
        DUE.is("one", desk.search("b"), 1);
        DUE.is("none", desk.search("c"), 0);
        DUE.is("refused", desk.search("a or"), Desk.REFUSED_ARGUMENT);
        DUE.is("the tape is empty", desk.archive().count(5), 0);
        DUE.is("an empty tape", desk.search(""), 2);
        // a QUERY may have 1200 bytes
        Desk full = new Desk();
        full.add("\na");
        full.add("\nb");
        DUE.is("1200 bytes", full.search("a" + " ".repeat(1197) + " b"), 0);
        DUE.is("1200 bytes", full.search("b or" + " ".repeat(1194) + " a"), 2);
    }

    /** "they are FOUND, those of the latest DATE first, of one DATE the greatest number." */
    private static void inTheirOrder() {
        Desk desk = new Desk();
        desk.add("Date: 2 Jan 1970 00:00\n\n");
        desk.add("Date: 1 Jan 1970 00:01\n\n");
        desk.add("\n");
        desk.add("Date: 2 Jan 1970 00:00:59\n\n");
        desk.add("Date: 2 Jan 1970 00:01\n\n");
        desk.add("Date: 1 Jan 1970 00:00 +0001\n\n");
        desk.add("\n");
        desk.add("Date: 31 Dec 2999 23:59\n\n");
        desk.add("Date: 1 Jan 1970 00:00 +2359\n\n");
        desk.add("Date: 2 Jan 1970 01:00 +0100\n\n");
        DUE.is("the latest first", desk.find(""), "7 4 9 3 0 1 6 2 5 8");
        Desk sixty = new Desk();
        for (int i = 0; i < 60; i++) {
            sixty.add();
        }
        DUE.is("sixty of one DATE", sixty.search(""), 60);
        for (int k = 0; k < 60; k++) {
            DUE.is("found(" + k + ")", sixty.archive().found(k), 59 - k);
        }
    }

    /** "IllegalArgumentException: it is none (what was FOUND stays)." */
    private static void whatWasFoundStays() {
        Desk desk = new Desk();
        desk.add("\na");
        desk.add("\na b");
        desk.search("a");
        desk.archive().conversations();
        String[] wrong = {"or", "(b", "b or", "b)", "\"", "date:x", "b tag:"};
        for (String query : wrong) {
            DUE.is("<" + query + ">", desk.search(query), Desk.REFUSED_ARGUMENT);
            DUE.is("count(2)", desk.archive().count(2), 2);
            DUE.is("found(0)", desk.archive().found(0), 1);
            DUE.is("found(1)", desk.archive().found(1), 0);
            DUE.is("found(2)", desk.archive().found(2), NONE);
            DUE.is("thread(1)", desk.archive().thread(1), 0);
        }
        DUE.is("conversations()", desk.archive().conversations(), 2);
        DUE.is("then another", desk.find("b"), "1");
    }

    // ---- Promise 8

    private static void faults() {
        zeroOrPlace();
        itsLengthForTheEnd();
        atTheBeginning();
        firstOfMany();
    }

    private static void fault(String query, int want) {
        Desk desk = new Desk();
        desk.add("\na");
        DUE.is("search() of <" + query + ">", desk.search(query) == Desk.REFUSED_ARGUMENT, want != 0);
        DUE.is("fault() of <" + query + ">", desk.archive().fault(), want);
        DUE.is("fault() once more", desk.archive().fault(), want);
    }

    /** "Of the latest search(): 0, or, if it was refused, 1 and the place". */
    private static void zeroOrPlace() {
        fault("", 0);
        fault("a", 0);
        fault("b", 0);
        fault(")", 1);
        fault(" )", 2);
        fault(" ".repeat(1199) + ")", 1200);
        Desk desk = new Desk();
        desk.search("a )");
        DUE.is("refused", desk.archive().fault(), 3);
        desk.add("\na");
        desk.tag(0, true, "A");
        desk.remove(5);
        desk.archive().conversations();
        DUE.is("other calls leave it", desk.archive().fault(), 3);
        desk.search("(");
        DUE.is("the latest", desk.archive().fault(), 2);
        desk.search("a");
        DUE.is("the latest is good", desk.archive().fault(), 0);
    }

    /** "(at it; its length for the end; ..)". */
    private static void itsLengthForTheEnd() {
        fault("(", 2);
        fault("(a", 3);
        fault("(a \t ", 6);
        fault("a or", 5);
        fault("a or ", 6);
        fault("a and", 6);
        fault("not", 4);
        fault("  not  ", 8);
        fault("((a)", 5);
        fault("(" + "a ".repeat(599) + "a", 1201);
        fault("a".repeat(1198) + " (", 1201);
        fault("a".repeat(1196) + " not", 1201);
    }

    /** "a word is told at its beginning, a FIELD with what it is as one". */
    private static void atTheBeginning() {
        fault("a or and", 6);
        fault("a (and", 4);
        fault("  or", 3);
        fault("a  thread:12345678901", 4);
        fault("a date:19700101..19700132", 3);
        fault("a from:", 3);
        fault("a from:\"b", 3);
        fault("a tag:\"b\"", 3);
        fault("a \"b c", 3);
        fault("a\"b", 2);
        fault("a from:b\"", 9);
    }

    /** Of more than one that can't stand the first is told. */
    private static void firstOfMany() {
        fault(") )", 1);
        fault("a ) or or", 3);
        fault("thread:x date:x", 1);
        fault("a date:x )", 3);
        fault("or \"", 1);
        fault("(" + ")(", 2);
        fault("(".repeat(30), 21);
        fault("(".repeat(20) + ")" + "(".repeat(5), 21);
        fault("(".repeat(19) + " or " + "(".repeat(5), 21);
    }

    // ---- Promise 9

    /** "The k-th message that is FOUND (it may have gone since). NONE if there is none." */
    private static void found() {
        Desk desk = new Desk();
        for (int k : FAR) {
            DUE.is("before a search: found(" + k + ")", desk.archive().found(k), NONE);
        }
        desk.add("\na");
        desk.add("\na");
        desk.add("\nb");
        DUE.is("nothing is found by add()", desk.archive().found(0), NONE);
        desk.search("a");
        DUE.is("found(0)", desk.archive().found(0), 1);
        DUE.is("found(1)", desk.archive().found(1), 0);
        DUE.is("found(2)", desk.archive().found(2), NONE);
        for (int k : FAR) {
            DUE.is("found(" + k + ")", desk.archive().found(k), NONE);
        }
        desk.remove(1);
        DUE.is("it has gone", desk.archive().found(0), 1);
        DUE.is("the other", desk.archive().found(1), 0);
        DUE.is("count(2)", desk.archive().count(2), 2);
        desk.add("\na");
        DUE.is("what comes is not found", desk.archive().found(0), 1);
        desk.search("c");
        DUE.is("nothing is found", desk.archive().found(0), NONE);
        Desk sixty = new Desk();
        for (int i = 0; i < 60; i++) {
            sixty.add();
        }
        sixty.search("");
        DUE.is("found(59)", sixty.archive().found(59), 0);
        DUE.is("found(60)", sixty.archive().found(60), NONE);
    }

    // ---- Promises 10 and 11

    /** "Of those FOUND that are there the THREADS, each once, in order of their first ones: how many". */
    private static void conversations() {
        Desk desk = new Desk();
        DUE.is("of nothing", desk.archive().conversations(), 0);
        desk.add("Message-ID: <a>\nDate: 1 Jan 1970 00:01\n\nw");
        desk.add("Message-ID: <b>\nDate: 1 Jan 1970 00:02\n\nw");
        desk.add("References: <a>\nDate: 1 Jan 1970 00:03\n\nw");
        desk.add("References: <b>\nDate: 1 Jan 1970 00:04\n\nw v");
        desk.add("References: <a>\nDate: 1 Jan 1970 00:05\n\nw");
        DUE.is("nothing is found", desk.archive().conversations(), 0);
        desk.search("w");
        DUE.is("each once", desk.archive().conversations(), 2);
        DUE.is("thread(0), the first one's", desk.archive().thread(0), 0);
        DUE.is("thread(1)", desk.archive().thread(1), 1);
        DUE.is("again", desk.archive().conversations(), 2);
        desk.remove(4);
        DUE.is("the first one has gone", desk.archive().conversations(), 2);
        DUE.is("thread(0)", desk.archive().thread(0), 1);
        DUE.is("thread(1)", desk.archive().thread(1), 0);
        desk.remove(0);
        DUE.is("a THREAD is what it is now", desk.archive().conversations(), 2);
        DUE.is("thread(1)", desk.archive().thread(1), 2);
        desk.search("v");
        DUE.is("of one that is found", desk.archive().conversations(), 1);
        DUE.is("its THREAD need not be found", desk.archive().thread(0), 1);
        desk.remove(3);
        DUE.is("it has gone", desk.archive().conversations(), 0);
        desk.search("none");
        DUE.is("none is found", desk.archive().conversations(), 0);
        Desk sixty = new Desk();
        for (int i = 0; i < 60; i++) {
            sixty.add();
        }
        sixty.search("");
        DUE.is("sixty THREADS", sixty.archive().conversations(), 60);
        DUE.is("the last", sixty.archive().thread(59), 0);
        DUE.is("no more", sixty.archive().thread(60), NONE);
    }

    /** "The k-th THREAD of the latest conversations(); NONE if there is none." */
    private static void threads() {
        Desk desk = new Desk();
        for (int k : FAR) {
            DUE.is("before conversations(): thread(" + k + ")", desk.archive().thread(k), NONE);
        }
        desk.add("\na");
        desk.add("\nb");
        desk.search("");
        DUE.is("a search tells none", desk.archive().thread(0), NONE);
        DUE.is("conversations()", desk.archive().conversations(), 2);
        DUE.is("thread(0)", desk.archive().thread(0), 1);
        DUE.is("thread(1)", desk.archive().thread(1), 0);
        DUE.is("thread(2)", desk.archive().thread(2), NONE);
        for (int k : FAR) {
            DUE.is("thread(" + k + ")", desk.archive().thread(k), NONE);
        }
        desk.search("a");
        DUE.is("of the latest conversations()", desk.archive().thread(0), 1);
        desk.remove(1);
        DUE.is("also when it has gone", desk.archive().thread(0), 1);
        DUE.is("conversations()", desk.archive().conversations(), 1);
        DUE.is("thread(0)", desk.archive().thread(0), 0);
        DUE.is("thread(1) is no more", desk.archive().thread(1), NONE);
        desk.remove(0);
        desk.archive().conversations();
        DUE.is("nor is thread(0)", desk.archive().thread(0), NONE);
    }

    // ---- Promise 12

    private static void about() {
        eachWhat();
        aboutNone();
        otherWhat();
    }

    /** "its THREAD (what = 0), PARENT (1; NONE without), .. how long its ID is (9; 0 without), how many REFERENCES (10)". */
    private static void eachWhat() {
        Desk desk = new Desk();
        desk.add();
        desk.add(WHOLE);
        desk.add("Message-ID: <r1>\n\n");
        desk.tag(1, true, "x");
        desk.tag(1, true, "y");
        desk.tag(1, true, "z");
        int[] without = {0, NONE, 0, 0, 0, 0, 0, 0, 0, 0, 0};
        int[] whole = {1, 2, 1, 9, 3, 1, 2, 3, 4, 4, 2};
        for (int what = 0; what <= 10; what++) {
            DUE.is("of nothing: about(0, " + what + ")", desk.archive().about(0, what), without[what]);
            DUE.is("about(1, " + what + ")", desk.archive().about(1, what), whole[what]);
        }
        Desk full = new Desk();
        full.add("Message-ID: <" + "i".repeat(60) + ">\nReferences:" + " <r>".repeat(17) + "\n\n" + "w ".repeat(201));
        DUE.is("an ID of 60", full.archive().about(0, 9), 60);
        DUE.is("16 REFERENCES", full.archive().about(0, 10), 16);
        DUE.is("200 words", full.archive().about(0, 8), 200);
        Desk early = new Desk();
        early.add("Date: 1 Jan 1970 00:00 +0002\n\n");
        DUE.is("a DATE below 0", early.archive().about(0, 3), -2);
    }

    /** "NONE if it is not there". */
    private static void aboutNone() {
        Desk desk = new Desk();
        desk.add(WHOLE);
        desk.add(WHOLE);
        desk.remove(0);
        for (int what = 0; what <= 10; what++) {
            DUE.is("about(0, " + what + ")", desk.archive().about(0, what), NONE);
            DUE.is("about(2, " + what + ")", desk.archive().about(2, what), NONE);
            for (int message : FAR) {
                DUE.is("about(" + message + ", " + what + ")", desk.archive().about(message, what), NONE);
            }
        }
    }

    /** "or for another what." */
    private static void otherWhat() {
        Desk desk = new Desk();
        desk.add(WHOLE);
        DUE.is("about(0, 11)", desk.archive().about(0, 11), NONE);
        DUE.is("about(0, 12)", desk.archive().about(0, 12), NONE);
        for (int what : FAR) {
            DUE.is("about(0, " + what + ")", desk.archive().about(0, what), NONE);
            DUE.is("about(1, " + what + ")", desk.archive().about(1, what), NONE);
        }
    }

    // ---- Promise 13

    private static void at() {
        eachField();
        tagsInOrder();
        noneSuch();
    }

    /** "Byte k of word i in field 0 FROM, .. its i-th TAG .. (4), or of its ID (5, i is 0), or REFERENCE i (6)." */
    private static void eachField() {
        Desk desk = new Desk();
        desk.add(WHOLE);
        desk.tag(0, true, "x1");
        desk.tag(0, true, "y");
        String[] want = {"f", "t u", "s \u00c3\u00a9 v", "b c d e", "x1 y", "id@x", "r1 r22"};
        for (int field = 0; field <= 6; field++) {
            DUE.is("field " + field, desk.texts(0, field), want[field]);
        }
        DUE.is("a byte above 127", desk.archive().at(0, 2, 1, 1), 0xa9);
        Desk full = new Desk();
        full.add("Message-ID: <" + "i".repeat(59) + "j>\nReferences:" + " <r>".repeat(15) + " <" + "s".repeat(59) + "t> <u>\n\n"
                + "w ".repeat(199) + "abcdefghijklmnopq");
        DUE.is("byte 59 of the ID", full.archive().at(0, 5, 0, 59), 'j');
        DUE.is("byte 60 of the ID", full.archive().at(0, 5, 0, 60), NONE);
        DUE.is("byte 59 of REFERENCE 15", full.archive().at(0, 6, 15, 59), 't');
        DUE.is("byte 60 of REFERENCE 15", full.archive().at(0, 6, 15, 60), NONE);
        DUE.is("REFERENCE 16", full.archive().at(0, 6, 16, 0), NONE);
        DUE.is("byte 15 of word 199", full.archive().at(0, 3, 199, 15), 'p');
        DUE.is("byte 16 of word 199", full.archive().at(0, 3, 199, 16), NONE);
        DUE.is("word 200", full.archive().at(0, 3, 200, 0), NONE);
    }

    /** "its i-th TAG in order of their bytes". */
    private static void tagsInOrder() {
        Desk desk = new Desk();
        desk.add();
        String[] tags = {"b", "ab", "a", "9", "aa", "zzzzzzzzzzzz", "0a", "a0"};
        for (String tag : tags) {
            desk.tag(0, true, tag);
        }
        DUE.is("in order", desk.texts(0, 4), "0a 9 a a0 aa ab b zzzzzzzzzzzz");
        desk.tag(0, false, "aa");
        DUE.is("one less", desk.texts(0, 4), "0a 9 a a0 ab b zzzzzzzzzzzz");
        desk.tag(0, false, "0a");
        desk.tag(0, false, "zzzzzzzzzzzz");
        DUE.is("the first and the last off", desk.texts(0, 4), "9 a a0 ab b");
        desk.tag(0, true, "zz");
        desk.tag(0, true, "00");
        DUE.is("others on", desk.texts(0, 4), "00 9 a a0 ab b zz");
        DUE.is("byte 11 of one of 12", desk.tag(0, true, "zzzzzzzzzzzy"), 1);
        DUE.is("byte 11", desk.archive().at(0, 4, 7, 11), 'y');
        DUE.is("byte 12", desk.archive().at(0, 4, 7, 12), NONE);
        DUE.is("TAG 8", desk.archive().at(0, 4, 8, 0), NONE);
    }

    /** "NONE if there is none such." */
    private static void noneSuch() {
        Desk desk = new Desk();
        desk.add(WHOLE);
        desk.tag(0, true, "xx");
        int[] counts = {1, 2, 3, 4, 1, 1, 2};
        int[] sizes = {1, 1, 1, 1, 2, 4, 2};
        for (int field = 0; field <= 6; field++) {
            String call = "at(0, " + field + ", ";
            DUE.is(call + "0, " + (sizes[field] - 1) + ") is there", desk.archive().at(0, field, 0, sizes[field] - 1) == NONE, false);
            DUE.is(call + "0, " + sizes[field] + ")", desk.archive().at(0, field, 0, sizes[field]), NONE);
            DUE.is(call + counts[field] + ", 0)", desk.archive().at(0, field, counts[field], 0), NONE);
            for (int n : FAR) {
                DUE.is(call + n + ", 0)", desk.archive().at(0, field, n, 0), NONE);
                DUE.is(call + "0, " + n + ")", desk.archive().at(0, field, 0, n), NONE);
                DUE.is("at(" + n + ", " + field + ", 0, 0)", desk.archive().at(n, field, 0, 0), NONE);
            }
        }
        for (int n : FAR) {
            DUE.is("at(0, " + n + ", 0, 0)", desk.archive().at(0, n, 0, 0), NONE);
        }
        Desk second = new Desk();
        second.add();
        DUE.is("at(0, 7, 0, 0)", second.archive().at(0, 7, 0, 0), NONE);
        for (int field = 0; field <= 6; field++) {
            DUE.is("of nothing: field " + field, second.archive().at(0, field, 0, 0), NONE);
            DUE.is("of one that never came: field " + field, second.archive().at(1, field, 0, 0), NONE);
        }
        // an ID has no word 1 or -1, also when there are others
        second.add("Message-ID: <a>\nReferences: <b>\n\n");
        DUE.is("at(1, 5, 1, 0)", second.archive().at(1, 5, 1, 0), NONE);
        DUE.is("at(1, 5, -1, 0)", second.archive().at(1, 5, -1, 0), NONE);
        DUE.is("at(1, 5, 0, 0)", second.archive().at(1, 5, 0, 0), 'a');
        // no word of a field goes on in the next one
        Desk fields = new Desk();
        fields.add("From: a\nTo: b\nSubject: c\n\nd");
        DUE.is("no second one in FROM", fields.archive().at(0, 0, 1, 0), NONE);
        DUE.is("no second one in TO", fields.archive().at(0, 1, 1, 0), NONE);
        DUE.is("no second one in SUBJECT", fields.archive().at(0, 2, 1, 0), NONE);
        DUE.is("no word -1 in TO", fields.archive().at(0, 1, -1, 0), NONE);
    }

    // ---- Promise 14

    private static void counts() {
        thereAndCame();
        foundAndTape();
        differentWords();
        differentTags();
        otherCounts();
    }

    /** "Messages there (what = 0), that came (1)". */
    private static void thereAndCame() {
        Desk desk = new Desk();
        for (int i = 0; i < 5; i++) {
            DUE.is("there", desk.archive().count(0), i);
            DUE.is("came", desk.archive().count(1), i);
            desk.add();
        }
        desk.remove(4);
        desk.remove(0);
        DUE.is("there", desk.archive().count(0), 3);
        DUE.is("came", desk.archive().count(1), 5);
        desk.remove(0);
        DUE.is("a call that is refused", desk.archive().count(0), 3);
    }

    /** "FOUND (2)", "bytes on the tape (5)". */
    private static void foundAndTape() {
        Desk desk = new Desk();
        desk.add("\na");
        desk.add("\na");
        DUE.is("before a search", desk.archive().count(2), 0);
        desk.search("a");
        DUE.is("two", desk.archive().count(2), 2);
        desk.remove(0);
        DUE.is("those that have gone are FOUND too", desk.archive().count(2), 2);
        desk.search("a)");
        DUE.is("a refusal leaves it", desk.archive().count(2), 2);
        desk.type("12345");
        DUE.is("on the tape", desk.archive().count(5), 5);
        desk.archive().feed(1, 2, 3, 4, 5);
        DUE.is("what is ready is not on the tape", desk.archive().count(5), 5);
        desk.archive().end(0);
        DUE.is("still", desk.archive().count(5), 5);
    }

    /** "different words in all fields of those there (3)". */
    private static void differentWords() {
        Desk desk = new Desk();
        DUE.is("none", desk.archive().count(3), 0);
        desk.add("From: a\nTo: A b\nSubject: b c\nCc: z\nMessage-ID: <y>\n\nc d d");
        DUE.is("four", desk.archive().count(3), 4);
        DUE.is("again", desk.archive().count(3), 4);
        desk.add("\nd e abcdefghijklmnopq");
        DUE.is("six", desk.archive().count(3), 6);
        desk.add("\nabcdefghijklmnoprs abcdefghijklmno");
        DUE.is("the first 16 bytes alone", desk.archive().count(3), 7);
        desk.remove(0);
        DUE.is("one has gone", desk.archive().count(3), 4);
        desk.search("none of these");
        DUE.is("words of a QUERY are none", desk.archive().count(3), 4);
        desk.remove(1);
        desk.remove(2);
        DUE.is("all have gone", desk.archive().count(3), 0);
        Desk many = new Desk();
        StringBuilder mail = new StringBuilder("Subject:");
        for (int i = 0; i < 290; i++) {
            mail.append(Integer.toString(i + 1296, 36)).append(' ');
        }
        many.add(mail.toString());
        DUE.is("290", many.archive().count(3), 290);
        many.add(mail.toString());
        DUE.is("they are the same", many.archive().count(3), 290);
        many.remove(0);
        DUE.is("still there", many.archive().count(3), 290);
    }

    /** "different TAGS that some has (4)". */
    private static void differentTags() {
        Desk desk = new Desk();
        for (int i = 0; i < 7; i++) {
            desk.add();
        }
        DUE.is("none", desk.archive().count(4), 0);
        for (int i = 0; i < 56; i++) {
            desk.tag(i / 8, true, "t" + i);
        }
        DUE.is("56", desk.archive().count(4), 56);
        desk.tag(0, false, "t0");
        DUE.is("nobody has t0", desk.archive().count(4), 55);
        desk.tag(0, true, "t55");
        DUE.is("two have t55", desk.archive().count(4), 55);
        desk.remove(6);
        DUE.is("one of these has gone", desk.archive().count(4), 48);
        desk.tag(0, false, "t55");
        DUE.is("nobody has t55", desk.archive().count(4), 47);
        desk.search("tag:new");
        DUE.is("a QUERY's are none", desk.archive().count(4), 47);
    }

    /** "NONE for another what." */
    private static void otherCounts() {
        MailArchive x = new MailArchive();
        DUE.is("count(6)", x.count(6), NONE);
        DUE.is("count(7)", x.count(7), NONE);
        for (int what : FAR) {
            DUE.is("count(" + what + ")", x.count(what), NONE);
        }
    }

    /** "An object is used for at most 512 calls": the 512th answers as the first. */
    private static void lastOf512() {
        MailArchive x = new MailArchive();
        x.add();
        for (int call = 2; call <= 511; call++) {
            DUE.is("call " + call, x.about(0, 0), 0);
        }
        DUE.is("call 512", x.count(1), 1);
        // the calls that bring most: 20 bytes of new words at each pair of calls
        MailArchive full = new MailArchive();
        int calls = 0;
        int came = 0;
        for (int i = 0; calls < 508; i++) {
            int digits = '0' + i % 10 | '0' + i / 10 % 10 << 8;
            full.feed(0x20610000 | digits, 0x20620000 | digits, 0x20630000 | digits, 0x20640000 | digits, 0x20650000 | digits);
            full.end(20);
            calls += 2;
            if (i % 60 == 59) {
                DUE.is("add()", full.add(), came);
                DUE.is("its words", full.about(came, 8), 200);
                came++;
                calls += 2;
            }
        }
        DUE.is("different words of the first 200 of each", full.count(3), 5 * 100);
    }
}
