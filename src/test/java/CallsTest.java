/** Promises 1 to 7, 9 and 14: the tape, what comes and goes, tags, counts; each refusal by its name. */
public final class CallsTest {
    private static final Due DUE = new Due();

    public static void main(String[] args) {
        aNewObject();
        feedAndEnd();
        endRefuses();
        zerosAtFirst();
        addRefuses();
        removing();
        tagging();
        tagRefuses();
        searching();
        counting();
        DUE.end();
    }

    /** Promise 1. */
    private static void aNewObject() {
        MailArchive x = new MailArchive();
        for (int what = 0; what <= 5; what++) {
            DUE.is("new: count(" + what + ")", x.count(what), 0);
        }
        DUE.is("new: found(0)", x.found(0), MailArchive.NONE);
        DUE.is("new: thread(0)", x.thread(0), MailArchive.NONE);
        DUE.is("new: fault()", x.fault(), 0);
        DUE.is("new: conversations()", x.conversations(), 0);
        DUE.is("new: about(0, 3)", x.about(0, 3), MailArchive.NONE);
        DUE.is("new: at(0, 0, 0, 0)", x.at(0, 0, 0, 0), MailArchive.NONE);
        DUE.is("NONE", MailArchive.NONE, -1);
    }

    /** Promises 2 and 3: the highest byte of the first number comes first; what is ready is 0 after an end. */
    private static void feedAndEnd() {
        MailArchive x = new MailArchive();
        // Message-ID is too long a way to look at single bytes: a tag shows them
        x.add();
        x.feed(0x61626364, 0x65666768, 0x696a6b6c, 0, 0);
        DUE.is("end(12)", x.end(12), 12);
        DUE.is("tag", x.tag(0, true), true);
        for (int k = 0; k < 12; k++) {
            DUE.is("byte " + k, x.at(0, 4, 0, k), 'a' + k);
        }
        DUE.is("end(0)", x.end(0), 0);
        // Subject: and seven bytes in all five numbers, the highest one above 127
        x.feed(0x5375626a, 0x6563743a, 0xff202020, 0x20202020, 0x207a0a0a);
        DUE.is("end(20)", x.end(20), 20);
        x.feed(0x80000000, 0, 0, 0, 0x79);
        DUE.is("end(-1)", x.end(-1), MailArchive.NONE);
        DUE.is("end(1) behind an end that is refused", x.end(1), 21);
        DUE.is("end(4) behind an end", x.end(4), 25);
        x.add();
        DUE.is("byte 255", x.at(1, 2, 0, 0), 255);
        DUE.is("last number", x.at(1, 2, 1, 0), 'z');
        DUE.is("what was ready stays behind a refusal", x.at(1, 3, 0, 0), 128);
        DUE.is("zeros follow an end", x.about(1, 8), 1);
        DUE.is("one byte", x.at(1, 3, 0, 1), MailArchive.NONE);
        // a feed behind a feed counts alone
        x.feed(0x0a616161, 0x61616161, 0x61616161, 0x61616161, 0x61616161);
        x.feed(0x0a620000, 0, 0, 0, 0);
        x.end(20);
        x.add();
        DUE.is("second feed", x.about(2, 8), 1);
        DUE.is("second feed", x.at(2, 3, 0, 0), 'b');
        x.feed(0x61616161, 0x61616161, 0x61616161, 0x61616161, 0x61616161);
        DUE.is("end(0)", x.end(0), 0);
        DUE.is("end(2)", x.end(2), 2);
        x.add();
        DUE.is("end(0) answers a number too", x.about(3, 8), 0);
    }

    /** Bytes that nobody fed are 0, and no byte of a word. */
    private static void zerosAtFirst() {
        MailArchive x = new MailArchive();
        DUE.is("end(20)", x.end(20), 20);
        x.add();
        DUE.is("no words", x.about(0, 8), 0);
        x.feed(-1, -1, -1, -1, -1);
        DUE.is("end(20)", x.end(20), 20);
        DUE.is("end(20)", x.end(20), 40);
        x.add();
        DUE.is("one word", x.about(1, 8), 1);
    }

    private static void endRefuses() {
        MailArchive x = new MailArchive();
        int[] wrong = {-1, 21, Integer.MIN_VALUE, Integer.MAX_VALUE};
        for (int n : wrong) {
            DUE.is("end(" + n + ")", x.end(n), MailArchive.NONE);
        }
        for (int n = 20; n <= 1180; n += 20) {
            DUE.is("end(20)", x.end(20), n);
        }
        DUE.is("end(19)", x.end(19), 1199);
        DUE.is("end(2) at 1199", x.end(2), MailArchive.NONE);
        DUE.is("count(5)", x.count(5), 1199);
        DUE.is("end(1) at 1199", x.end(1), 1200);
        DUE.is("end(1) at 1200", x.end(1), MailArchive.NONE);
        DUE.is("end(0) at 1200", x.end(0), 1200);
        DUE.is("end(max) at 1200", x.end(Integer.MAX_VALUE), MailArchive.NONE);
    }

    /** Promise 4. */
    private static void addRefuses() {
        Desk desk = new Desk();
        for (int i = 0; i < 60; i++) {
            DUE.is("add()", desk.add(), i);
        }
        desk.type("\nhello");
        DUE.is("add() of a 61st", desk.add(), Desk.REFUSED_STATE);
        DUE.is("the tape stays", desk.archive().count(5), 6);
        DUE.is("remove(59)", desk.remove(59), 0);
        DUE.is("add()", desk.add(), 60);
        DUE.is("what stayed on the tape came", desk.text(60, 3, 0), "hello");
        DUE.is("the tape is empty", desk.archive().count(5), 0);
        for (int i = 61; i < 200; i++) {
            desk.remove(i - 1);
            DUE.is("add()", desk.add(), i);
        }
        desk.remove(199);
        desk.remove(58);
        DUE.is("there", desk.archive().count(0), 58);
        DUE.is("add() of a 201st", desk.add(), Desk.REFUSED_STATE);
        DUE.is("came", desk.archive().count(1), 200);
        DUE.is("all 58 are found", desk.search(""), 58);
        DUE.is("the greatest number first", desk.archive().found(0), 57);
        DUE.is("not over all", desk.search("not not not x"), 58);
    }

    /** Promise 5. */
    private static void removing() {
        Desk desk = new Desk();
        DUE.is("remove(0)", desk.remove(0), Desk.REFUSED_INDEX);
        desk.add("\none");
        desk.add("\ntwo");
        desk.tag(0, true, "t");
        DUE.is("find", desk.find(""), "1 0");
        DUE.is("remove(0)", desk.remove(0), 0);
        DUE.is("remove(0) again", desk.remove(0), Desk.REFUSED_INDEX);
        DUE.is("remove(-1)", desk.remove(-1), Desk.REFUSED_INDEX);
        DUE.is("remove(2)", desk.remove(2), Desk.REFUSED_INDEX);
        DUE.is("remove(max)", desk.remove(Integer.MAX_VALUE), Desk.REFUSED_INDEX);
        DUE.is("there", desk.archive().count(0), 1);
        DUE.is("came", desk.archive().count(1), 2);
        DUE.is("tags", desk.archive().count(4), 0);
        DUE.is("words", desk.archive().count(3), 1);
        DUE.is("about one that has gone", desk.archive().about(0, 0), MailArchive.NONE);
        DUE.is("at one that has gone", desk.archive().at(0, 3, 0, 0), MailArchive.NONE);
        DUE.is("found(1) has gone, but was found", desk.archive().found(1), 0);
        DUE.is("count(2)", desk.archive().count(2), 2);
        DUE.is("conversations() without it", desk.archive().conversations(), 1);
        DUE.is("thread(0)", desk.archive().thread(0), 1);
        DUE.is("find", desk.find(""), "1");
        DUE.is("find", desk.find("one"), "");
        DUE.is("the other is whole", desk.text(1, 3, 0), "two");
    }

    /** Promise 6. */
    private static void tagging() {
        Desk desk = new Desk();
        desk.add("\none");
        desk.add("\ntwo");
        DUE.is("on", desk.tag(0, true, "b"), 1);
        DUE.is("the tape is empty", desk.archive().count(5), 0);
        DUE.is("on again", desk.tag(0, true, "b"), 0);
        DUE.is("off another", desk.tag(0, false, "c"), 0);
        DUE.is("off of another message", desk.tag(1, false, "b"), 0);
        DUE.is("twelve", desk.tag(0, true, "abcdefghijk9"), 1);
        DUE.is("0", desk.tag(0, true, "0"), 1);
        DUE.is("ba", desk.tag(0, true, "ba"), 1);
        DUE.is("a0", desk.tag(0, true, "a0"), 1);
        DUE.is("z", desk.tag(0, true, "z"), 1);
        DUE.is("in order of their bytes", desk.texts(0, 4), "0 a0 abcdefghijk9 b ba z");
        DUE.is("off", desk.tag(0, false, "b"), 1);
        DUE.is("off again", desk.tag(0, false, "b"), 0);
        DUE.is("without it", desk.texts(0, 4), "0 a0 abcdefghijk9 ba z");
        DUE.is("how many", desk.archive().about(0, 4), 5);
        desk.tag(1, true, "ba");
        desk.tag(1, true, "q");
        DUE.is("different ones", desk.archive().count(4), 6);
        DUE.is("tag:ba", desk.find("tag:ba"), "1 0");
        DUE.is("tag:b", desk.find("tag:b"), "");
        DUE.is("tag:z", desk.find("tag:z"), "0");
        DUE.is("tag:nothing of that name", desk.find("tag:never"), "");
        DUE.is("tag:ba*", desk.find("tag:ba*"), "");
    }

    private static void tagRefuses() {
        Desk desk = new Desk();
        desk.add("\none");
        String[] wrong = {"", "A", "a b", "a-", "abcdefghijklm", "\u00e9", " a", "a\n", "`", "{", "/", ":"};
        for (String tag : wrong) {
            DUE.is("tag <" + tag + "> on", desk.tag(0, true, tag), Desk.REFUSED_ARGUMENT);
            DUE.is("the tape is empty", desk.archive().count(5), 0);
            DUE.is("tag <" + tag + "> off", desk.tag(0, false, tag), Desk.REFUSED_ARGUMENT);
        }
        DUE.is("of no message", desk.tag(1, true, "a"), Desk.REFUSED_INDEX);
        DUE.is("the tape is empty", desk.archive().count(5), 0);
        DUE.is("of no message, no tag", desk.tag(-1, false, "A"), Desk.REFUSED_INDEX);
        for (int i = 0; i < 8; i++) {
            DUE.is("on", desk.tag(0, true, "t" + i), 1);
        }
        DUE.is("a ninth", desk.tag(0, true, "t8"), Desk.REFUSED_STATE);
        DUE.is("the tape is empty", desk.archive().count(5), 0);
        DUE.is("one of the eight", desk.tag(0, true, "t7"), 0);
        DUE.is("a ninth off", desk.tag(0, false, "t8"), 0);
        DUE.is("no tag goes ahead of too many", desk.tag(0, true, "T"), Desk.REFUSED_ARGUMENT);
        DUE.is("off", desk.tag(0, false, "t0"), 1);
        DUE.is("on", desk.tag(0, true, "t8"), 1);
        DUE.is("tags", desk.texts(0, 4), "t1 t2 t3 t4 t5 t6 t7 t8");
    }

    /** Promises 7 and 9: the order of those found, and what stays behind a refusal. */
    private static void searching() {
        Desk desk = new Desk();
        desk.add("Date: 2 Jan 2000 10:00\n\na");
        desk.add("Date: 1 Jan 2000 10:00\n\na b");
        desk.add("\na");
        desk.add("Date: 2 Jan 2000 10:00:59\n\na");
        desk.add("Date: 1 Jan 1970 00:30 +0100\n\na");
        desk.add("\na");
        DUE.is("latest first, greatest number first", desk.find("a"), "3 0 1 5 2 4");
        DUE.is("the tape is empty", desk.archive().count(5), 0);
        DUE.is("found(6)", desk.archive().found(6), MailArchive.NONE);
        DUE.is("found(-1)", desk.archive().found(-1), MailArchive.NONE);
        DUE.is("found(max)", desk.archive().found(Integer.MAX_VALUE), MailArchive.NONE);
        DUE.is("found(min)", desk.archive().found(Integer.MIN_VALUE), MailArchive.NONE);
        DUE.is("b", desk.find("b"), "1");
        DUE.is("refused", desk.find("a )"), "fault 3");
        DUE.is("the tape is empty", desk.archive().count(5), 0);
        DUE.is("what was found stays", desk.archive().found(0), 1);
        DUE.is("count(2) stays", desk.archive().count(2), 1);
        DUE.is("fault() stays", desk.archive().fault(), 3);
        DUE.is("nothing", desk.find("c"), "");
        DUE.is("fault()", desk.archive().fault(), 0);
        DUE.is("count(2)", desk.archive().count(2), 0);
    }

    /** Promise 14. */
    private static void counting() {
        Desk desk = new Desk();
        desk.add("From: a b\nTo: b c\nSubject: C d\nX: never\n\nd e e f");
        desk.add("Subject: a F\n\ng A");
        DUE.is("words", desk.archive().count(3), 7);
        desk.type("abc");
        DUE.is("tape", desk.archive().count(5), 3);
        DUE.is("count(-1)", desk.archive().count(-1), MailArchive.NONE);
        DUE.is("count(6)", desk.archive().count(6), MailArchive.NONE);
        DUE.is("count(min)", desk.archive().count(Integer.MIN_VALUE), MailArchive.NONE);
        desk.add();
        desk.remove(0);
        DUE.is("words", desk.archive().count(3), 4);
        desk.add("From: a b\n\n");
        DUE.is("words", desk.archive().count(3), 5);
        Desk full = new Desk();
        for (int mail = 0; mail < 3; mail++) {
            StringBuilder subject = new StringBuilder("Subject:");
            for (int i = 0; i < 200; i++) {
                subject.append(mail * 200 + i).append(' ');
            }
            full.add(subject.toString());
            DUE.is("words", full.archive().count(3), mail * 200 + 200);
        }
        DUE.is("577", full.find("577"), "2");
        DUE.is("0", full.find("0"), "0");
        DUE.is("\"398 399\"", full.find("\"398 399\""), "1");
        DUE.is("40*", full.find("40*"), "2 0");
        DUE.is("word 150", full.text(1, 2, 150), "350");
        full.add("Subject: 0 1 x 599 200");
        DUE.is("words", full.archive().count(3), 601);
    }
}
