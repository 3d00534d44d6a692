import java.time.LocalDate;
import java.time.YearMonth;

/**
 * The sentences of 'Terms' that tell how a message is read, from MESSAGE to REFERENCES: each one that names
 * a boundary case has a method of its own, with the sentence above it.
 */
public final class MailTermsTest {
    private static final Due DUE = new Due();
    private static final int FROM = 0;
    private static final int TO = 1;
    private static final int SUBJECT = 2;
    private static final int BODY = 3;
    private static final int ID = 5;
    private static final int REFERENCES = 6;
    private static final String BASE64 = "Content-Transfer-Encoding: base64\n\n";
    private static final String QUOTED = "Content-Transfer-Encoding: quoted-printable\n\n";
    private static final String MIXED = "Content-Type: multipart/mixed;boundary=x\n\n";

    public static void main(String[] args) {
        message();
        header();
        encoded();
        base64();
        quoted();
        content();
        text();
        words();
        dates();
        ids();
        DUE.end();
    }

    private static void due(String mail, int field, String want) {
        DUE.is("field " + field + " of <" + mail + ">", Desk.textsOf(mail, field), want);
    }

    private static void dueDate(String value, int want) {
        DUE.is("Date: <" + value + ">", Desk.aboutOf("Date: " + value + "\n\nx", 3), want);
    }

    // ---- MESSAGE

    private static void message() {
        emptyToFull();
        linesEnd();
        onlyOneThirteen();
        lastLine();
    }

    /** "A MESSAGE: 0 to 1200 bytes." */
    private static void emptyToFull() {
        Desk none = new Desk();
        DUE.is("a message of 0 bytes", none.add(), 0);
        for (int what = 3; what <= 10; what++) {
            DUE.is("about(0, " + what + ") of 0 bytes", none.archive().about(0, what), 0);
        }
        due("x", BODY, "x");
        due(":", BODY, "");
        due("\n", BODY, "");
        // the last byte of 1200 counts
        Desk full = new Desk();
        DUE.is("a message of 1200 bytes", full.add("\n" + ".".repeat(1197) + " z"), 0);
        DUE.is("its last byte", full.texts(0, BODY), "z");
        Desk fullHeader = new Desk();
        fullHeader.add("Subject:" + " ".repeat(1191) + "z");
        DUE.is("the last byte of a header of 1200", fullHeader.texts(0, SUBJECT), "z");
        Desk lines = new Desk();
        lines.add("a:\n".repeat(399) + "\nz\n");
        DUE.is("400 lines and a body", lines.texts(0, BODY), "z");
        Desk words = new Desk();
        words.add("To:" + "a ".repeat(598) + "b");
        DUE.is("599 words", words.archive().about(0, 6), 599);
        DUE.is("the last one", words.text(0, TO, 598), "b");
    }

    /** "Its LINES end with a byte 10 (a 13 just ahead of it is no part of the line)". */
    private static void linesEnd() {
        due("Subject: a\nTo: b\r\nFrom: c\n\rd", TO, "b");
        due("Subject: a\nTo: b\r\nFrom: c\n\rd", FROM, "c");
        due("Subject: a\rTo: b\nFrom: c", SUBJECT, "a to b");
        due("Subject: a\rTo: b\nFrom: c", TO, "");
        due("Content-Type: text/plain\r\n\r\na", BODY, "a");
        due("Content-Transfer-Encoding: base64\r\n\r\nYQ", BODY, "a");
        due("\r\na: b", BODY, "a b");
        dueDate("1 Jan 1970 00:05\r", 5);
        due("Message-ID:\r\n <a>\r\n", ID, "a");
    }

    /** Of two 13 only the one just ahead of the 10 is no part; one that stands elsewhere is a byte of its line. */
    private static void onlyOneThirteen() {
        due("Content-Type: text/plain\r\r\n\na", BODY, "");
        due("Content-Type: text/plain\r \n\na", BODY, "");
        due(MIXED + "--x\r\r\n\na\n--x\n\nb", BODY, "b");
        due("Message-ID: <a\rb>", ID, "a\rb");
        due("Message-ID: <a\r\r\n>", ID, "");
        dueDate("1 Jan 1970 00:05\r\r", 0);
        dueDate("1 Jan 1970 00:05\rx", 0);
        // a line of one 13 is not a line of nothing: it is the body's first one, and = at its end is not at its end
        due("Content-Transfer-Encoding: quoted-printable\n\na=\r\r\nb", BODY, "a b");
    }

    /** "the last one with the message (there is none behind a last 10)". */
    private static void lastLine() {
        due("Subject: a", SUBJECT, "a");
        due("Subject: a\n", SUBJECT, "a");
        due("Subject: a\n b", SUBJECT, "a b");
        due("\na\nb", BODY, "a b");
        due(MIXED + "--x\n\na\n--x--", BODY, "a");
        due(MIXED + "--x\n\na\n--x\n\nb", BODY, "a b");
        // a 13 that no 10 follows is a byte of the last line
        DUE.is("Date with a last 13", Desk.aboutOf("Date: 1 Jan 1970 00:05\r", 3), 0);
        DUE.is("Date with a last 10", Desk.aboutOf("Date: 1 Jan 1970 00:05\n", 3), 5);
        DUE.is("Date with both", Desk.aboutOf("Date: 1 Jan 1970 00:05\r\n", 3), 5);
        DUE.is("Date with none", Desk.aboutOf("Date: 1 Jan 1970 00:05", 3), 5);
        due(MIXED + "--x\n\na\n--x--\r", BODY, "a x");
    }

    // ---- HEADER

    private static void header() {
        names();
        folded();
        foldedNothing();
        headerEnds();
        trimmed();
        firstCounts();
        noFieldInBetween();
    }

    /** "a NAME of letters, digits and - (at least one), a :, its VALUE, the rest". */
    private static void names() {
        due("AZaz09-:x\nSubject: s", SUBJECT, "s");
        due("-:\nSubject: s", SUBJECT, "s");
        due("0:\nSubject: s", SUBJECT, "s");
        due("Subject:", SUBJECT, "");
        due("Subject::a:b", SUBJECT, "a b");
        due("Subject:a", SUBJECT, "a");
        String[] wrong = {":", " ", "\t", "a", "Subject", "a b:", "a_:", "@:", "[:", "`:", "{:", "/:", ",:", ".:", "a\u00e9:", "a :",
            "\u0080:", "\0:", "a\r:", "-", "\"a\":"};
        for (String line : wrong) {
            due(line + "\nSubject: s", SUBJECT, "");
            due(line + "z\nSubject: s", SUBJECT, "");
        }
        due("Subjects: a", SUBJECT, "");
        due("Subjec: a", SUBJECT, "");
        due("XSubject: a", SUBJECT, "");
        due("Fro-m: a\nT-o: b", FROM, "");
    }

    /** "or, behind a FIELD, begins with a BLANK (32 or 9): then it, without BLANKS at its beginning and with one 32 ahead". */
    private static void folded() {
        due("Subject: a\n b\n\tc\n \t d", SUBJECT, "a b c d");
        due("Subject:\n a", SUBJECT, "a");
        due(" a\nSubject: b", SUBJECT, "");
        due(" a\nSubject: b", BODY, "a subject b");
        due("\ta\nSubject: b", BODY, "a subject b");
        due("Subject: a\n\u000bb", SUBJECT, "a");
        due("Subject: a\n\u000bb", BODY, "b");
        due("Subject: a\n\u00a0b", SUBJECT, "a");
        due("Subject: a\n To: b", TO, "");
        due("Subject: a\n To: b", SUBJECT, "a to b");
        due("X: a\n b\nSubject: c", SUBJECT, "c");
        due("Subject: a-\n b", SUBJECT, "a b");
        // one 32, whatever its beginning was
        due("Content-Type: multipart/x;boundary=\"y\n \t\t  z\"\n\n--y z\n\na", BODY, "a");
        due("Content-Type: multipart/x;boundary=\"y\n\tz\"\n\n--y\tz\n\na\n--y z\n\nb", BODY, "b");
        due("Content-Type: multipart/x;boundary=\"y\n z\"\n\n--yz\n\na", BODY, "");
    }

    /** A line of BLANKS alone behind a FIELD comes to its value as one 32; it does not end the header. */
    private static void foldedNothing() {
        due("Subject: a\n \nTo: b\n\nc", TO, "b");
        due("Subject: a\n\t\n \n b\n\nc", SUBJECT, "a b");
        due("Content-Type: multipart/x;boundary=\"y\n \n z\"\n\n--y z\n\na\n--y  z\n\nb", BODY, "b");
        due("Content-Type: multipart/x;boundary=\"y \n z\"\n\n--y z\n\na\n--y  z\n\nb", BODY, "b");
        due("Content-Type:\n \n text/plain\n\t\n\na", BODY, "a");
        due("Subject: a\r\n \r\n b", SUBJECT, "a b");
    }

    /** "A line of nothing ends the header (it is no part of the BODY, which is what follows); so does any other one (the BODY's first line)." */
    private static void headerEnds() {
        due("a: b\n\nSubject: c", SUBJECT, "");
        due("a: b\n\nSubject: c", BODY, "subject c");
        due("\nSubject: c", SUBJECT, "");
        due("\n\nc", BODY, "c");
        due("\n", BODY, "");
        due("a: b\n\n", BODY, "");
        due("a: b\n", BODY, "");
        due("a: b", BODY, "");
        due("c\nSubject: d", BODY, "c subject d");
        due("a: b\nc d\nSubject: e", BODY, "c d subject e");
        due("a: b\nc d\n\ne: f\n g", BODY, "c d e f g");
        due("a: b\nc", BODY, "c");
        // the line of nothing is none of the body's lines: what stands behind it is coded
        due("Content-Transfer-Encoding: base64\nYQ\n", BODY, "a");
    }

    /** "VALUES are without BLANKS at both ends." */
    private static void trimmed() {
        due("Content-Transfer-Encoding: \t base64\t \n\nYQ", BODY, "a");
        due("Content-Transfer-Encoding:base64\n\nYQ", BODY, "a");
        due("Content-Type: \t text/plain \t\n\na", BODY, "a");
        due("Content-Type:\t\n\na", BODY, "a");
        due("Content-Type:\n \t\n\na", BODY, "a");
        due("Content-Type: \u000btext/plain\n\na", BODY, "");
        due("Content-Type: text/plain\u000b\n\na", BODY, "");
        due("Content-Type: multipart/x;boundary=y \t\n\n--y\n\na", BODY, "a");
        due("Content-Type: multipart/x;boundary=y\n \n\t\n\n--y\n\na", BODY, "a");
    }

    /** "Of fields of one name (great and small letters alike) the first one counts." */
    private static void firstCounts() {
        due("SUBJECT: a\nsubject: b\nSubject: c", SUBJECT, "a");
        due("from:\nFrom: b", FROM, "");
        due("To: a\nTo: b\n c\nSubject: d", TO, "a");
        due("To: a\nX: b\nTO: c\n d\nx: e\n f", TO, "a");
        due("Content-Type: text/html\ncontent-type: text/plain\n\na", BODY, "");
        due("content-TYPE: text/plain\nContent-Type: text/html\n\na", BODY, "a");
        due("content-transfer-ENCODING: base64\nContent-Transfer-Encoding: x\n\nYQ", BODY, "a");
        due("Content-Transfer-Encoding: x\nContent-Transfer-Encoding: base64\n\nYQ", BODY, "yq");
        due("MESSAGE-ID: <a>\nMessage-id: <b>", ID, "a");
        due("Message-ID: a\nMessage-ID: <b>", ID, "");
        due("references: <a>\nReferences: <b>", REFERENCES, "a");
        due("References:\nREFERENCES: <b>\nin-reply-TO: <c>\nIn-Reply-To: <d>", REFERENCES, "c");
        DUE.is("the first Date", Desk.aboutOf("date: 1 Jan 1970 00:05\nDATE: 1 Jan 1970 00:06\n", 3), 5);
        DUE.is("the first Date, a wrong one", Desk.aboutOf("Date:\nDate: 1 Jan 1970 00:06\n", 3), 0);
    }

    /** A header of other names is read by nobody, but is the header; what is folded there is lost. */
    private static void noFieldInBetween() {
        due("Subject: a\nX-Subject: b\n c\nTo: d", SUBJECT, "a");
        due("Cc: a\nBcc: b\n\nc", TO, "");
        due("Cc: a\nBcc: b\n\nc", BODY, "c");
    }

    // ---- ENCODED

    private static void encoded() {
        inThreeFields();
        charsets();
        kinds();
        encodedTexts();
        encodedQ();
        encodedB();
        betweenTwo();
        notSo();
    }

    /** "ENCODED, in the values of From, To, Subject". */
    private static void inThreeFields() {
        String one = "=?utf-8?Q?a=42?=";
        due("From: " + one, FROM, "ab");
        due("To: " + one, TO, "ab");
        due("Subject: " + one, SUBJECT, "ab");
        due("\n" + one, BODY, "utf 8 q a 42");
        due("Message-ID: <" + one + ">", ID, one);
        due("References: <" + one + ">", REFERENCES, one);
        DUE.is("no Date", Desk.aboutOf("Date: =?utf-8?Q?1_Jan_1970_00:05?=\n", 3), 0);
        due("Content-Type: =?utf-8?Q?text/plain?=\n\na", BODY, "");
        due("Content-Transfer-Encoding: =?utf-8?Q?base64?=\n\nYQ", BODY, "yq");
        // in the value, with what was folded
        due("Subject: =?utf-8?Q?a?=\n =?utf-8?Q?b?=\n c", SUBJECT, "ab c");
        due("Subject: =?utf-8?Q?a\n b?=", SUBJECT, "utf 8 q a b");
    }

    /** "CHARSET: utf-8 or us-ascii (great or small)". */
    private static void charsets() {
        String[] good = {"utf-8", "UTF-8", "uTf-8", "us-ascii", "US-ASCII", "Us-Ascii"};
        for (String charset : good) {
            due("Subject: =?" + charset + "?Q?=7A?=", SUBJECT, "z");
        }
        due("Subject: =?utf8?Q?=7A?=", SUBJECT, "utf8 q 7a");
        due("Subject: =?utf-88?Q?=7A?=", SUBJECT, "utf 88 q 7a");
        due("Subject: =?utf-?Q?=7A?=", SUBJECT, "utf q 7a");
        due("Subject: =?ascii?Q?=7A?=", SUBJECT, "ascii q 7a");
        due("Subject: =?iso-8859-1?Q?=7A?=", SUBJECT, "iso 8859 1 q 7a");
        due("Subject: =??Q?=7A?=", SUBJECT, "q 7a");
        due("Subject: =? utf-8?Q?=7A?=", SUBJECT, "utf 8 q 7a");
        due("Subject: = ?utf-8?Q?=7A?=", SUBJECT, "utf 8 q 7a");
        due("Subject: ?utf-8?Q?=7A?=", SUBJECT, "utf 8 q 7a");
    }

    /** "=?CHARSET?Q?TEXT?= or with B, q, b". */
    private static void kinds() {
        due("Subject: =?utf-8?Q?=7A?=", SUBJECT, "z");
        due("Subject: =?utf-8?q?=7A?=", SUBJECT, "z");
        due("Subject: =?utf-8?B?eg?=", SUBJECT, "z");
        due("Subject: =?utf-8?b?eg?=", SUBJECT, "z");
        String[] wrong = {"a", "c", "p", "r", "A", "C", "P", "R"};
        for (String kind : wrong) {
            due("Subject: =?utf-8?" + kind + "?eg?=", SUBJECT, "utf 8 " + kind.toLowerCase() + " eg");
        }
        due("Subject: =?utf-8??eg?=", SUBJECT, "utf 8 eg");
        due("Subject: =?utf-8?Qq?eg?=", SUBJECT, "utf 8 qq eg");
        due("Subject: =?utf-8?Q eg?=", SUBJECT, "utf 8 q eg");
        due("Subject: =?utf-8?Q", SUBJECT, "utf 8 q");
        due("Subject: =?utf-8?", SUBJECT, "utf 8");
        due("Subject: =?", SUBJECT, "");
    }

    /** "TEXT: bytes but BLANKS and ?". */
    private static void encodedTexts() {
        due("Subject: =?utf-8?Q?a b?=", SUBJECT, "utf 8 q a b");
        due("Subject: =?utf-8?Q?a\tb?=", SUBJECT, "utf 8 q a b");
        due("Subject: =?utf-8?Q? a?=", SUBJECT, "utf 8 q a");
        due("Subject: =?utf-8?Q?a ?=", SUBJECT, "utf 8 q a");
        due("Subject: =?utf-8?Q?a?b?=", SUBJECT, "utf 8 q a b");
        due("Subject: =?utf-8?Q?a??=", SUBJECT, "utf 8 q a");
        due("Subject: =?utf-8?Q?a\u000bb\u00e9=.?=", SUBJECT, "a b\u00e9");
        due("Subject: =?utf-8?Q?" + "a".repeat(9) + "=41" + "b".repeat(9) + "?=", SUBJECT, "aaaaaaaaaabbbbbb");
        due("Subject: x=?utf-8?Q??=y", SUBJECT, "xy");
        due("Subject: x=?utf-8?B??=y", SUBJECT, "xy");
    }

    /** "Q: _ is 32, = and two hexadecimal digits that byte, other bytes themselves, also a = without two behind it". */
    private static void encodedQ() {
        due("Subject: =?utf-8?Q?a_b__c_?=d", SUBJECT, "a b c d");
        due("Subject: =?utf-8?Q?=30=39=41=5A=61=7a=7A?=", SUBJECT, "09azazz");
        due("Subject: =?utf-8?Q?=C3=b6=Fa=aF=80=ff?=", SUBJECT, "\u00c3\u00b6\u00fa\u00af\u0080\u00ff");
        due("Subject: =?utf-8?Q?a=7Fb=20c=09d=5Fe?=", SUBJECT, "a b c d e");
        due("Subject: =?utf-8?Q?a=?=", SUBJECT, "a");
        due("Subject: =?utf-8?Q?a=4?=", SUBJECT, "a 4");
        due("Subject: =?utf-8?Q?a=4?=1", SUBJECT, "a 41");
        due("Subject: =?utf-8?Q?=G1=1G=g1=1g?=", SUBJECT, "g1 1g g1 1g");
        due("Subject: =?utf-8?Q?=/1=:1=@1=`1=1/=1:=1@=1`?=", SUBJECT, "1 1 1 1 1 1 1 1");
        due("Subject: =?utf-8?Q?==41=4=42?=", SUBJECT, "a 4b");
        due("Subject: =?utf-8?Q?=414?=", SUBJECT, "a4");
        due("Subject: =?utf-8?Q?=3D41?=", SUBJECT, "41");
        due("Subject: =?utf-8?Q?=?=", SUBJECT, "");
        // a byte that is told is a byte: no BLANK that parts words of the header, no ENCODED again
        due("Subject: =?utf-8?Q?=3D=3Futf-8=3FQ=3Fa=3F=3D?=", SUBJECT, "utf 8 q a");
        due("Subject: =?utf-8?Q?a=0Ab?=", SUBJECT, "a b");
    }

    /** "B: BASE64". */
    private static void encodedB() {
        due("Subject: =?utf-8?B?YWJj?=", SUBJECT, "abc");
        due("Subject: =?utf-8?B?YWI=?=", SUBJECT, "ab");
        due("Subject: =?utf-8?B?YQ==?=", SUBJECT, "a");
        due("Subject: =?utf-8?B?YWJjY?=", SUBJECT, "abc");
        due("Subject: =?utf-8?B?Y_W-J.j?=", SUBJECT, "abc");
        due("Subject: =?utf-8?B?Y?=a", SUBJECT, "a");
        due("Subject: =?utf-8?B?YQ?==?utf-8?B?Yg?=", SUBJECT, "ab");
    }

    /** "Between two such ones BLANKS alone are nothing." */
    private static void betweenTwo() {
        due("Subject: =?utf-8?Q?a?= =?utf-8?B?Yg?=", SUBJECT, "ab");
        due("Subject: =?utf-8?Q?a?==?utf-8?Q?b?=", SUBJECT, "ab");
        due("Subject: =?utf-8?Q?a?= \t  =?utf-8?Q?b?=\t=?utf-8?Q?c?=", SUBJECT, "abc");
        due("Subject: =?utf-8?Q?a?= - =?utf-8?Q?b?=", SUBJECT, "a b");
        due("Subject: =?utf-8?Q?a?=\u000b=?utf-8?Q?b?=", SUBJECT, "a b");
        due("Subject: =?utf-8?Q?a?= b =?utf-8?Q?c?=", SUBJECT, "a b c");
        due("Subject: a =?utf-8?Q?b?= c", SUBJECT, "a b c");
        due("Subject: =?utf-8?Q?a?= =?utf-9?Q?b?=", SUBJECT, "a utf 9 q b");
        due("Subject: =?utf-9?Q?a?= =?utf-8?Q?b?=", SUBJECT, "utf 9 q a b");
        due("Subject: =?utf-8?Q?a?= =?utf-8?Q??= =?utf-8?Q?b?=", SUBJECT, "ab");
        due("Subject: =?utf-8?Q?a_?= =?utf-8?Q?b?=", SUBJECT, "a b");
        due("Subject: =?utf-8?Q?a?=b=?utf-8?Q?c?=d", SUBJECT, "abcd");
    }

    /** "What is not so is itself." */
    private static void notSo() {
        due("Subject: =?utf-8?Q?a", SUBJECT, "utf 8 q a");
        due("Subject: =?utf-8?Q?a?", SUBJECT, "utf 8 q a");
        due("Subject: =?utf-8?Q?a? =", SUBJECT, "utf 8 q a");
        due("Subject: =?utf-8?Q?", SUBJECT, "utf 8 q");
        due("Subject: =?utf-8?Q?a?=?utf-8?Q?b?=", SUBJECT, "a utf 8 q b");
        due("Subject: ==?utf-8?Q?a?==", SUBJECT, "a");
        due("Subject: =?utf-8?Q?=?utf-8?Q?a?=", SUBJECT, "utf 8 q a");
        due("Subject: =?utf-8?=?utf-8?Q?a?=", SUBJECT, "utf 8 a");
        due("Subject: a_b=41", SUBJECT, "a b 41");
    }

    // ---- BASE64

    private static void base64() {
        digits();
        otherBytes();
        atTheEnd();
    }

    /** "A .. Z a .. z 0 .. 9 + / are 0 .. 63". */
    private static void digits() {
        String all = "ABCDEFGHIJKLMNOPQRSTUVWXYZabcdefghijklmnopqrstuvwxyz0123456789+/";
        for (int n = 0; n < all.length(); n++) {
            // as the fourth behind three of 63 its six bits are the last ones of a byte above 127
            due(BASE64 + "///" + all.charAt(n), BODY, "\u00ff\u00ff" + (char) (192 | n));
        }
        due(BASE64 + "wMHC", BODY, "\u00c0\u00c1\u00c2");
        due(BASE64 + "AEFB", BODY, "aa");
        due(BASE64 + "zzzz", BODY, "\u00cf \u00f3");
    }

    /** "other bytes nothing". */
    private static void otherBytes() {
        String others = "\0\t\n\r !\"#$%&'()*,-.:;<=>?@[\\]^_`{|}~\u007f\u0080\u00c1\u00ff";
        for (int i = 0; i < others.length(); i++) {
            char other = others.charAt(i);
            due(BASE64 + "Y" + other + "WJj", BODY, "abc");
        }
        due(BASE64 + "=Y=W=J=j=", BODY, "abc");
        // an = in the middle ends nothing: Y Q Y W are three bytes
        due(BASE64 + "YQ==YWJj", BODY, "a");
        due(BASE64 + "YQ==JjQQ", BODY, "a ca");
        due(BASE64 + "====", BODY, "");
        due(BASE64, BODY, "");
        due(BASE64 + "Y\nW\r\nJ\n\nj\n", BODY, "abc");
    }

    /** "four are three bytes, at the end three are two, two are one" (and one is none). */
    private static void atTheEnd() {
        String[] wants = {"", "", "a", "ab", "abc", "abc", "abcd", "abcde", "abcdef"};
        for (int n = 0; n < wants.length; n++) {
            due(BASE64 + "YWJjZGVm".substring(0, n), BODY, wants[n]);
            due(BASE64 + "YWJjZGVm".substring(0, n) + "=", BODY, wants[n]);
        }
        // the end is that of the part: Z is nothing here, and G V m are two bytes there, 25 and Y
        due(MIXED + "--x\n" + BASE64 + "YWJjZ\n--x\n" + BASE64 + "GVm", BODY, "abc y");
    }

    // ---- QUOTED

    private static void quoted() {
        blanksAtItsEnd();
        equalsAtItsEnd();
        hexadecimal();
        tenBetween();
    }

    /** "line by line: BLANKS at its end are nothing". */
    private static void blanksAtItsEnd() {
        due(QUOTED + "a= \nb", BODY, "ab");
        due(QUOTED + "a=\t \t\nb", BODY, "ab");
        due(QUOTED + "a= \r\nb", BODY, "ab");
        due(QUOTED + "a=\u000b\nb", BODY, "a b");
        due(QUOTED + "=41= ", BODY, "a");
        due(QUOTED + " \n \nb", BODY, "b");
        due(QUOTED + "a=4 \n1", BODY, "a 4 1");
        due(QUOTED + "a=\n  b", BODY, "a b");
    }

    /** "a = at its end then takes the line's end away". */
    private static void equalsAtItsEnd() {
        due(QUOTED + "a=\nb", BODY, "ab");
        due(QUOTED + "a=\r\nb=\n=63", BODY, "abc");
        due(QUOTED + "a =\nb", BODY, "a b");
        due(QUOTED + "a==\nb", BODY, "a b");
        due(QUOTED + "a=\n=\n=\nb", BODY, "ab");
        due(QUOTED + "a=\n\nb", BODY, "a b");
        due(QUOTED + "=\na", BODY, "a");
        due(QUOTED + "a=", BODY, "a");
        due(QUOTED + "=", BODY, "");
        due(QUOTED + "a=\n", BODY, "a");
        due(QUOTED + "a=3D\nb", BODY, "a b");
        // the last line's = takes nothing away that is behind the part
        due(MIXED + "--x\n" + QUOTED + "a=\n--x\n\nb", BODY, "a b");
        due(MIXED + "--x\n" + QUOTED + "a=\n\n--x\n\nb", BODY, "a b");
    }

    /** "= and two hexadecimal digits: that byte; all else itself". */
    private static void hexadecimal() {
        due(QUOTED + "=30=39=41=5A=61=7a=C3=b6=Fa=aF", BODY, "09azaz\u00c3\u00b6\u00fa\u00af");
        due(QUOTED + "=7F=80", BODY, "\u0080");
        due(QUOTED + "a_b", BODY, "a b");
        due(QUOTED + "=4", BODY, "4");
        due(QUOTED + "=4\n", BODY, "4");
        due(QUOTED + "=4=\n1", BODY, "41");
        due(QUOTED + "=G1=1G=g1=1g", BODY, "g1 1g g1 1g");
        due(QUOTED + "=/1=:1=@1=`1=1/=1:=1@=1`", BODY, "1 1 1 1 1 1 1 1");
        due(QUOTED + "==41=414", BODY, "aa4");
        due(QUOTED + "=3D41", BODY, "41");
        due(QUOTED + "a=0Ab=20c", BODY, "a b c");
        due(QUOTED + "?=41 \u00e9.", BODY, "a \u00e9");
    }

    /** "a 10 between lines". */
    private static void tenBetween() {
        due(QUOTED + "a\nb\r\nc\n", BODY, "a b c");
        due(QUOTED + "\n\na\n\n", BODY, "a");
        due(QUOTED, BODY, "");
    }

    // ---- CONTENT

    private static void content() {
        contents();
        noContent();
        boundaries();
        boundariesInSigns();
        codingNames();
    }

    /** "CONTENT: of Content-Type: up to the first ;, without BLANKS at the end, small". */
    private static void contents() {
        due("Content-Type: text/plain\n\na", BODY, "a");
        due("Content-Type: TEXT/PLAIN\n\na", BODY, "a");
        due("Content-Type: text/plain;\n\na", BODY, "a");
        due("Content-Type: text/plain \t ; x=y; text/html\n\na", BODY, "a");
        due("Content-Type: text/plain\n ;x\n\na", BODY, "a");
        due("Content-Type: text/html; text/plain\n\na", BODY, "");
        due("Content-Type: text/plai\n\na", BODY, "");
        due("Content-Type: text/plainx\n\na", BODY, "");
        due("Content-Type: text/plain x\n\na", BODY, "");
        due("Content-Type: text /plain\n\na", BODY, "");
        due("Content-Type: text\n\na", BODY, "");
        due("Content-Type: xtext/plain\n\na", BODY, "");
    }

    /** "none, or without a value, is text/plain". */
    private static void noContent() {
        due("Subject: s\n\na", BODY, "a");
        due("Content-Type:\n\na", BODY, "a");
        due("Content-Type: \t \n\na", BODY, "a");
        due("Content-Type: \nContent-Type: text/html\n\na", BODY, "a");
        due("Content-Transfer-Encoding: base64\n\nYQ", BODY, "a");
        // a value that begins with ; is a value
        due("Content-Type: ;\n\na", BODY, "");
    }

    /** "of the PARAMETERS behind (between ;, each NAME=VALUE without BLANKS at both ends .. ) the first one called boundary (great or small)". */
    private static void boundaries() {
        String parts = "\n\n--x\n\na\n--y\n\nb\n-- x\n\nc";
        due("Content-Type: multipart/m;boundary=x" + parts, BODY, "a y b x c");
        due("Content-Type: multipart/m; \t boundary=x \t ;" + parts, BODY, "a y b x c");
        due("Content-Type: multipart/m;BOUNDARY=x;boundary=y" + parts, BODY, "a y b x c");
        due("Content-Type: multipart/m;a=b;;c;Boundary=y;boundary=x" + parts, BODY, "b x c");
        due("Content-Type: multipart/m;boundary;boundary=x" + parts, BODY, "a y b x c");
        due("Content-Type: multipart/m;xboundary=x;boundaryx=x;boundar=x;boundary=y" + parts, BODY, "b x c");
        due("Content-Type: multipart/m;boundary =x;boundary=y" + parts, BODY, "b x c");
        due("Content-Type: multipart/m;boundary= x" + parts, BODY, "c");
        due("Content-Type: multipart/m;boundary= ;boundary=x\n\n-- \n\na\n--x\n\nb", BODY, "");
        due("Content-Type: multipart/m; boundary=x;\n\n--x\n\na", BODY, "a");
        due("Content-Type: multipart/m boundary=x" + parts, BODY, "");
        due("Content-Type: multipart/m;" + parts, BODY, "");
        due("Content-Type: multipart/m;boundary" + parts, BODY, "");
        due("Content-Type: boundary=x;multipart/m" + parts, BODY, "");
        due("Content-Type: multipart/m;boundary=x=y\n\n--x=y\n\na", BODY, "a");
        due("Content-Type: multipart/m;boundary=x y\n\n--x y\n\na", BODY, "a");
        due("Content-Type: multipart/m;boundary=X" + parts, BODY, "");
        due("Content-Type: multipart/m;boundary=\u00e9\n\n--\u00e9\n\na", BODY, "a");
    }

    /** "a VALUE perhaps in ", which are no part of it". */
    private static void boundariesInSigns() {
        due("Content-Type: multipart/m;boundary=\"x\"\n\n--x\n\na\n--\"x\"\n\nb", BODY, "a x b");
        due("Content-Type: multipart/m;boundary=\"x\" ; y\n\n--x\n\na", BODY, "a");
        due("Content-Type: multipart/m;boundary=\" x\"\n\n--x\n\na\n-- x\n\nb", BODY, "b");
        due("Content-Type: multipart/m;boundary=\"x \"\n\n--x\n\na\n--x \n\nb\n--x --\nc", BODY, "b");
        due("Content-Type: multipart/m;boundary=\"x\n\n--x\n\na\n--\"x\n\nb", BODY, "b");
        due("Content-Type: multipart/m;boundary=x\"\n\n--x\n\na\n--x\"\n\nb", BODY, "b");
        due("Content-Type: multipart/m;boundary=\"\n\n--\n\na\n--\"\n\nb", BODY, "b");
        due("Content-Type: multipart/m;boundary=\"\"\n\n--\n\na\n--\"\"\n\nb", BODY, "");
        due("Content-Type: multipart/m;boundary=\"\"\"\n\n--\n\na\n--\"\n\nb", BODY, "b");
    }

    /** "CODING: Content-Transfer-Encoding, small: quoted-printable is QUOTED, base64 is BASE64." */
    private static void codingNames() {
        due("Content-Transfer-Encoding: BASE64\n\nYQ", BODY, "a");
        due("Content-Transfer-Encoding: Quoted-Printable\n\n=41", BODY, "a");
        due("Content-Transfer-Encoding: base6\n\nYQ", BODY, "yq");
        due("Content-Transfer-Encoding: base644\n\nYQ", BODY, "yq");
        due("Content-Transfer-Encoding: base64;\n\nYQ", BODY, "yq");
        due("Content-Transfer-Encoding: quoted-printabl\n\n=41", BODY, "41");
        due("Content-Transfer-Encoding: quoted-printablee\n\n=41", BODY, "41");
        due("Content-Transfer-Encoding: 7bit\n\n=41", BODY, "41");
        due("Content-Transfer-Encoding:\n\n=41", BODY, "41");
        due("\n=41", BODY, "41");
    }

    // ---- TEXT

    private static void text() {
        multipart();
        boundaryBytes();
        beginAPart();
        endsAll();
        aheadAndBehind();
        partsAreMessages();
        fourInOneAnother();
        others();
    }

    /** "A content that begins with multipart/ and has a BOUNDARY". */
    private static void multipart() {
        due("Content-Type: multipart/;boundary=x\n\n--x\n\na", BODY, "a");
        due("Content-Type: MULTIPART/Alternative;boundary=x\n\n--x\n\na", BODY, "a");
        due("Content-Type: multipart/mixed y;boundary=x\n\n--x\n\na", BODY, "a");
        due("Content-Type: multipart;boundary=x\n\n--x\n\na", BODY, "");
        due("Content-Type: multipart;/boundary=x\n\n--x\n\na", BODY, "");
        due("Content-Type: multipar/;boundary=x\n\n--x\n\na", BODY, "");
        due("Content-Type: xmultipart/m;boundary=x\n\n--x\n\na", BODY, "");
        due("Content-Type: multipart/mixed\n\n--\n\na", BODY, "");
        // the coding of what has parts is none of theirs
        due("Content-Transfer-Encoding: base64\n" + MIXED + "--x\n\na", BODY, "a");
    }

    /** "a BOUNDARY of 1 to 40 bytes". */
    private static void boundaryBytes() {
        int[] sizes = {1, 2, 39, 40};
        for (int size : sizes) {
            String boundary = "b".repeat(size);
            due("Content-Type: multipart/m;boundary=" + boundary + "\n\n--" + boundary + "\n\na\n--" + boundary + "--\nz", BODY, "a");
            due("Content-Type: multipart/m;boundary=\"" + boundary + "\"\n\n--" + boundary + "\n\na", BODY, "a");
        }
        int[] wrong = {0, 41, 42, 80};
        for (int size : wrong) {
            String boundary = "b".repeat(size);
            due("Content-Type: multipart/m;boundary=" + boundary + "\n\n--" + boundary + "\n\na", BODY, "");
            due("Content-Type: multipart/m;boundary=\"" + boundary + "\"\n\n--" + boundary + "\n\na", BODY, "");
            due("Content-Type: multipart/m;boundary=" + boundary + ";boundary=x\n\n--x\n\na", BODY, "");
        }
        String forty = "b".repeat(40);
        due("Content-Type: multipart/m;boundary=" + forty + "b\n\n--" + forty + "\n\na", BODY, "");
        due("Content-Type: multipart/m;boundary=" + forty + "\n\n--" + forty + "b\n\na", BODY, "");
    }

    /** "lines that are -- and the BOUNDARY (BLANKS behind them) begin a part". */
    private static void beginAPart() {
        due(MIXED + "--x\n\na", BODY, "a");
        due(MIXED + "--x \t\n\na\n--x\t\n\nb", BODY, "a b");
        due(MIXED + "--x \r\n\na", BODY, "a");
        due(MIXED + "--x\u000b\n\na", BODY, "");
        // each is told with the words that it has as a line of a part
        String[][] wrong = {{"-x", " x"}, {"x", " x"}, {"--", ""}, {"---x", " x"}, {" --x", " x"}, {"--xx", " xx"}, {"--x-", " x"},
            {"--x -", " x"}, {"--x a", " x a"}, {"--X", " x"}, {"--x\r ", " x"}, {"-- x", " x"}, {"--x - -", " x"}};
        for (String[] line : wrong) {
            due(MIXED + line[0] + "\n\na", BODY, "");
            due(MIXED + "--x\n\na\n" + line[0] + "\nContent-Type: text/html\n\nb\n--x--", BODY,
                    "a" + line[1] + " content type text html b");
        }
        // of all that the message has, what is read of the BODY alone
        due("A: b\n" + MIXED + "--x\nSubject: s\n\na", SUBJECT, "");
        due(MIXED + "--x\nSubject: s\nFrom: f\nTo: t\n\na", FROM, "");
    }

    /** "-- and the BOUNDARY and -- ends all". */
    private static void endsAll() {
        due(MIXED + "--x\n\na\n--x--\n--x\n\nb", BODY, "a");
        due(MIXED + "--x--\n--x\n\nb", BODY, "");
        due(MIXED + "--x\n\na\n--x---\nb", BODY, "a x b");
        due(MIXED + "--x\n\na\n--x--b\nc", BODY, "a x b c");
        due(MIXED + "--x\n\na\n--x-\nb", BODY, "a x b");
        due(MIXED + "--x\n\na\n--x --\nb", BODY, "a x b");
        due(MIXED + "--x\n\na\n--x--\r\nb", BODY, "a");
        due(MIXED + "--x\n\na\n--x-- \t\nb", BODY, "a");
        due("Content-Type: multipart/m;boundary=x--\n\n--x--\n\na\n--x----\nb", BODY, "a");
        due("Content-Type: multipart/m;boundary=--\n\n----\n\na\n------\nb", BODY, "a");
    }

    /** "what is ahead of the first, and behind the end, is nothing". */
    private static void aheadAndBehind() {
        due(MIXED + "a\n\nb\n--x\n\nc\n--x--\nd\n\ne", BODY, "c");
        due(MIXED + "a\nb", BODY, "");
        due(MIXED, BODY, "");
        due("Content-Type: multipart/mixed;boundary=x", BODY, "");
        due("Content-Type: multipart/mixed;boundary=x\n--x\n\nc", BODY, "c");
    }

    /** "a part's lines (as told above), up to the next such line, or the end, are those of a message in its turn", "a 10 behind each". */
    private static void partsAreMessages() {
        due(MIXED + "--x\n\na\n--x\n\nb\n--x--", BODY, "a b");
        due(MIXED + "--x\na: b\nc: d\n\ne\n\nf\n--x\ng\n--x--", BODY, "e f g");
        due(MIXED + "--x\n\na\n--x\n\nb", BODY, "a b");
        due(MIXED + "--x\n--x\n--x\n\nb\n--x", BODY, "b");
        due(MIXED + "--x", BODY, "");
        due(MIXED + "--x\n a\nb: c", BODY, "a b c");
        due(MIXED + "--x\nContent-Type: text/html\n\na\n--x\nContent-Type: text/plain\n\nb", BODY, "b");
        due(MIXED + "--x\n" + BASE64 + "YWI\n--x\n\nc", BODY, "ab c");
        due(MIXED + "--x\n" + BASE64 + "YWI\n--x\n" + BASE64 + "Yw", BODY, "ab c");
        due(MIXED + "--x\n" + QUOTED + "a=\n--x\n" + QUOTED + "=62", BODY, "a b");
        due("Content-Type: multipart/m;boundary=x\r\n\r\n--x\r\nContent-Transfer-Encoding: base64\r\n\r\nYWI=\r\n--x--\r\n", BODY, "ab");
        Desk many = new Desk();
        many.add("Content-Type:multipart/;boundary=x\n\n" + "--x\n".repeat(288) + "\nlast\n--x\nz");
        DUE.is("as many parts as 1200 bytes can hold", many.texts(0, BODY), "last z");
        // a part's header is its own: the lines of the part ahead are no part of it
        due(MIXED + "--x\nContent-Transfer-Encoding: base64\n--x\n\nYQ", BODY, "yq");
        due(MIXED + "--x\nContent-Transfer-Encoding:\n--x\n base64\n\nYQ", BODY, "base64 yq");
    }

    /** "At most 4 messages in one another: the TEXT of a fifth is nothing." */
    private static void fourInOneAnother() {
        String one = "Content-Type: multipart/m;boundary=1\n\n--1\n";
        String two = "Content-Type: multipart/m;boundary=2\n\n--2\n";
        String three = "Content-Type: multipart/m;boundary=3\n\n--3\n";
        String four = "Content-Type: multipart/m;boundary=4\n\n--4\n";
        due(one + "\na", BODY, "a");
        due(one + two + "\na", BODY, "a");
        due(one + two + three + "\na", BODY, "a");
        due(one + two + three + four + "\na", BODY, "");
        due(one + two + three + four + "\na\n--4--\n--3\n\nb\n--3--\n--2\n\nc\n--2--\n--1\n\nd", BODY, "b c d");
        due(one + two + three + "\na\n--3\n" + four + "\nb\n--4\nc\n--3\n\nd", BODY, "a d");
        // many beside one another are not in one another
        due(MIXED + "--x\n\na\n--x\n\nb\n--x\n\nc\n--x\n\nd\n--x\n\ne\n--x\n\nf", BODY, "a b c d e f");
        due(one + "\na\n--1\n" + two + "\nb\n--2\n\nc\n--2--\n--1\n\nd", BODY, "a b c d");
        // a line of an outer BOUNDARY ends the inner ones
        due(one + two + "\na\n--1\n\nb\n--2\nc", BODY, "a b 2 c");
        due(one + two + "\na\n--1--\nb\n--2\n\nc", BODY, "a");
    }

    /** "Others have no TEXT." */
    private static void others() {
        due("Content-Type: text/html\n\na", BODY, "");
        due("Content-Type: message/rfc822\n\n\na", BODY, "");
        due("Content-Type: image/png\nContent-Transfer-Encoding: base64\n\nYQ", BODY, "");
        due("Content-Type: text/html\nSubject: s\n\na", SUBJECT, "s");
    }

    // ---- WORDS

    private static void words() {
        ofWhichBytes();
        sixteenBytes();
        twoHundred();
        places();
    }

    /** "rows of letters, digits and bytes 128 and above, as long as they can be; great letters are small". */
    private static void ofWhichBytes() {
        for (int b = 0; b < 256; b++) {
            boolean digit = b >= '0' && b <= '9';
            boolean small = b >= 'a' && b <= 'z';
            boolean great = b >= 'A' && b <= 'Z';
            boolean stands = digit || small || great || b >= 128;
            String want = b == 10 || !stands ? "x y" : "x" + (char) (great ? b + 32 : b) + "y";
            due("\nx" + (char) b + "y", BODY, want);
        }
        due("\na", BODY, "a");
        due("\n..a..", BODY, "a");
        due("\n\u00c9\u00c0Z", BODY, "\u00c9\u00c0z");
        due("\n...", BODY, "");
        due("Subject: \u00c9A-b\u0080", SUBJECT, "\u00c9a b\u0080");
    }

    /** "of more than 16 bytes the first 16". */
    private static void sixteenBytes() {
        due("\n" + "a".repeat(15), BODY, "a".repeat(15));
        due("\n" + "a".repeat(16), BODY, "a".repeat(16));
        due("\n" + "a".repeat(16) + "b", BODY, "a".repeat(16));
        due("\nb" + "a".repeat(60) + " c", BODY, "b" + "a".repeat(15) + " c");
        due("Subject: 1234567890ABCDEFG", SUBJECT, "1234567890abcdef");
        due("From: " + "\u00ff".repeat(17), FROM, "\u00ff".repeat(16));
        due("To: " + "x".repeat(32) + " y", TO, "x".repeat(16) + " y");
        Desk desk = new Desk();
        desk.add("\n" + "a".repeat(16) + " " + "a".repeat(17) + " " + "a".repeat(15));
        DUE.is("words of 16 and more that begin alike are one", desk.archive().count(3), 2);
    }

    /** "BODY (TEXT; the first 200)". */
    private static void twoHundred() {
        int[] counts = {0, 1, 199, 200, 201, 250};
        for (int n : counts) {
            Desk desk = new Desk();
            desk.add("\n" + "w ".repeat(n));
            DUE.is(n + " words in the body", desk.archive().about(0, 8), Math.min(n, 200));
        }
        Desk desk = new Desk();
        desk.add("Subject: " + "s ".repeat(201) + "\n\n" + "w ".repeat(199) + "last more");
        DUE.is("word 199", desk.text(0, BODY, 199), "last");
        DUE.is("word 200", desk.text(0, BODY, 200), "");
        DUE.is("last is found", desk.find("last"), "0");
        DUE.is("more is not found", desk.find("more"), "");
        DUE.is("\"last more\" is not found", desk.find("\"last more\""), "");
        DUE.is("more is no word of those there", desk.archive().count(3), 3);
        DUE.is("a subject has more", desk.archive().about(0, 7), 201);
        Desk heads = new Desk();
        heads.add("From: " + "s ".repeat(203) + "f\nTo: " + "s ".repeat(201) + "t\n\n");
        DUE.is("so has From", heads.archive().about(0, 5), 204);
        DUE.is("so has To", heads.archive().about(0, 6), 202);
        DUE.is("the last of From", heads.find("from:f"), "0");
        DUE.is("the last of To", heads.find("to:t"), "0");
    }

    /** "They have places 0, 1, .. : in FROM, TO, SUBJECT (the values, ENCODED read), BODY". */
    private static void places() {
        Desk desk = new Desk();
        desk.add("From: f0 f1\nTo: t0 t1 t2\nSubject: s0\nCc: c0\n\nb0 b1 b0");
        DUE.is("FROM", desk.texts(0, FROM), "f0 f1");
        DUE.is("TO", desk.texts(0, TO), "t0 t1 t2");
        DUE.is("SUBJECT", desk.texts(0, SUBJECT), "s0");
        DUE.is("BODY", desk.texts(0, BODY), "b0 b1 b0");
        DUE.is("no word stands in two fields", desk.find("\"s0 b0\""), "");
        DUE.is("nor from the last field to the first", desk.find("\"b0 f0\""), "");
    }

    // ---- DATE

    private static void dates() {
        dateWords();
        dayNames();
        days();
        months();
        years();
        times();
        zones();
        moreWords();
        yearsThatCount();
        notSoDates();
    }

    /** "words between BLANKS or commas". */
    private static void dateWords() {
        dueDate("1 Jan 1970 00:05", 5);
        dueDate(",, \t1,Jan,1970\t,00:05,", 5);
        dueDate("1\n Jan\n\t1970\r\n 00:05", 5);
        dueDate("1;Jan;1970;00:05", 0);
        dueDate("1-Jan-1970 00:05", 0);
        dueDate("1\u000bJan 1970 00:05", 0);
        dueDate("1Jan 1970 00:05", 0);
        dueDate(",", 0);
        dueDate("", 0);
    }

    /** "perhaps a name of letters". */
    private static void dayNames() {
        dueDate("Thu, 1 Jan 1970 00:05", 5);
        dueDate("thursday 1 Jan 1970 00:05", 5);
        dueDate("X,1 Jan 1970 00:05", 5);
        dueDate("Jan 1 Jan 1970 00:05", 5);
        dueDate("Thu. 1 Jan 1970 00:05", 0);
        dueDate("Thu1 1 Jan 1970 00:05", 0);
        dueDate("\u00e9 1 Jan 1970 00:05", 0);
        dueDate("@ 1 Jan 1970 00:05", 0);
        dueDate("[ 1 Jan 1970 00:05", 0);
        dueDate("` 1 Jan 1970 00:05", 0);
        dueDate("{ 1 Jan 1970 00:05", 0);
        dueDate("AZaz 1 Jan 1970 00:05", 5);
        dueDate("Thu Thu 1 Jan 1970 00:05", 0);
        dueDate("1 Thu Jan 1970 00:05", 0);
        dueDate("Thu", 0);
    }

    /** "a day of 1 or 2 digits", "The day must be there in that month". */
    private static void days() {
        dueDate("01 Jan 1970 00:05", 5);
        dueDate("9 Jan 1970 00:00", 8 * 1440);
        dueDate("09 Jan 1970 00:00", 8 * 1440);
        dueDate("001 Jan 1970 00:05", 0);
        dueDate("0 Jan 1970 00:05", 0);
        dueDate("00 Jan 1970 00:05", 0);
        dueDate("+1 Jan 1970 00:05", 0);
        dueDate("-1 Jan 1970 00:05", 0);
        dueDate("/1 Jan 1970 00:05", 0);
        dueDate(":1 Jan 1970 00:05", 0);
        dueDate("1a Jan 1970 00:05", 0);
        dueDate("99 Jan 1970 00:05", 0);
        String[] names = {"Jan", "Feb", "Mar", "Apr", "May", "Jun", "Jul", "Aug", "Sep", "Oct", "Nov", "Dec"};
        for (int month = 1; month <= 12; month++) {
            int last = YearMonth.of(1971, month).lengthOfMonth();
            int want = minutesOf(1971, month, last) + 1;
            dueDate(last + " " + names[month - 1] + " 1971 00:01", want);
            dueDate(last + 1 + " " + names[month - 1] + " 1971 00:01", 0);
            dueDate("1 " + names[month - 1] + " 1971 00:01", want - (last - 1) * 1440);
        }
        dueDate("29 Feb 1972 00:00", 789 * 1440);
        dueDate("1 Mar 1972 00:00", 790 * 1440);
        dueDate("30 Feb 1972 00:00", 0);
        dueDate("29 Feb 1973 00:00", 0);
        dueDate("29 Feb 2000 00:00", 15863040);
        dueDate("1 Mar 2000 00:00", 15864480);
        dueDate("29 Feb 2100 00:00", 0);
        dueDate("28 Feb 2100 00:00", minutesOf(2100, 2, 28));
        dueDate("1 Mar 2100 00:00", minutesOf(2100, 3, 1));
        dueDate("29 Feb 2400 00:00", minutesOf(2400, 2, 29));
        dueDate("29 Feb 2996 00:00", minutesOf(2996, 2, 29));
    }

    private static int minutesOf(int year, int month, int day) {
        return (int) LocalDate.of(year, month, day).toEpochDay() * 1440;
    }

    /** "a month by its first three letters (great or small) as jan .. dec, whatever follows these". */
    private static void months() {
        String[] names = {"january", "FEBRUARY", "March", "aPR", "maY.", "jun9", "Jul-y", "augAUG", "sePt", "oct\u00e9", "nov;", "DEC"};
        for (int month = 1; month <= 12; month++) {
            dueDate("2 " + names[month - 1] + " 1970 00:00", minutesOf(1970, month, 2));
        }
        String[] wrong = {"ja", "j", "ja n", "jab", "jam", "ian", "xan", "Mai", "okt", "dez", "anf", "ecj", "nfe", "1", "01", "j\u00e1n",
            "xjan", ".jan"};
        for (String month : wrong) {
            dueDate("2 " + month + " 1970 00:05", 0);
        }
    }

    /** "a year of 4 digits, or of 2 (00 .. 49: 2000 on, else 1900 on)". */
    private static void years() {
        dueDate("2 Jan 1970 00:00", 1440);
        dueDate("2 Jan 70 00:00", 1440);
        dueDate("1 Jan 71 00:00", minutesOf(1971, 1, 1));
        dueDate("1 Jan 99 00:00", minutesOf(1999, 1, 1));
        dueDate("1 Jan 00 00:00", minutesOf(2000, 1, 1));
        dueDate("1 Jan 01 00:00", minutesOf(2001, 1, 1));
        dueDate("31 Dec 49 00:00", minutesOf(2049, 12, 31));
        dueDate("1 Jan 50 00:05", 0);
        dueDate("1 Jan 69 00:05", 0);
        String[] wrong = {"0", "7", "070", "970", "01970", "19700", "197a", "7a", "-1", "+1", "+970", "19 70", "/970", ":970"};
        for (String year : wrong) {
            dueDate("2 Jan " + year + " 00:05", 0);
        }
        // two digits are a year of that hundred also for the day that must be there
        dueDate("29 Feb 00 00:00", minutesOf(2000, 2, 29));
        dueDate("29 Feb 99 00:05", 0);
        dueDate("29 Feb 96 00:00", minutesOf(1996, 2, 29));
    }

    /** "hh:mm or hh:mm:ss (2 digits each, below 24, 60, 61)". */
    private static void times() {
        dueDate("2 Jan 1970 00:00", 1440);
        dueDate("1 Jan 1970 23:59", 1439);
        dueDate("1 Jan 1970 09:08", 548);
        dueDate("1 Jan 1970 23:59:00", 1439);
        dueDate("1 Jan 1970 23:59:59", 1439);
        dueDate("1 Jan 1970 23:59:60", 1439);
        String[] wrong = {"24:00", "99:00", "00:60", "00:99", "00:05:61", "00:05:99", "0:05", "000:05", "00:5", "00:005", "00:05:",
            "00:05:0", "00:05:000", "0005", "00.05", "00:05.00", ":05", "00:", "00:05:00:00", "0a:05", "00:0a", "00:05:0a",
            "-1:05", "00:-5", "00:05:-1", "+1:05", "00", "", "00 :05", "00:05x", "x00:05", "/0:05", "::05", "00:/5", "00:05::0"};
        for (String time : wrong) {
            dueDate("1 Jan 1970 " + time, 0);
        }
    }

    /** "perhaps a ZONE, + or - and hhmm (below 24, 60), else (also another word) none". */
    private static void zones() {
        dueDate("2 Jan 1970 00:00 +0000", 1440);
        dueDate("2 Jan 1970 00:00 -0000", 1440);
        dueDate("2 Jan 1970 00:00 +0001", 1439);
        dueDate("2 Jan 1970 00:00 -0001", 1441);
        dueDate("2 Jan 1970 00:00 +0100", 1380);
        dueDate("2 Jan 1970 00:00 +2359", 1);
        dueDate("2 Jan 1970 00:00 -2359", 2879);
        dueDate("2 Jan 1970 00:00:30,+0059", 1381);
        String[] none = {"+2400", "-2400", "+0060", "-0160", "+9999", "0100", "+100", "+01000", "+01:00", "GMT", "UTC", "*0100", ",",
            "++100", "+-100", "+010a", "+a100", "+ 0100", "-", "+", "x+0100", "+0100x", "(+0100)", ""};
        for (String zone : none) {
            dueDate("2 Jan 1970 00:00 " + zone, 1440);
        }
        dueDate("2 Jan 1970 00:00+0100", 0);
        // the second word behind the time is no ZONE
        dueDate("2 Jan 1970 00:00 GMT +0100", 1440);
    }

    /** "more words are nothing". */
    private static void moreWords() {
        dueDate("2 Jan 1970 00:00 +0100 (CET)", 1380);
        dueDate("2 Jan 1970 00:00 +0100 -0100 x y z", 1380);
        dueDate("2 Jan 1970 00:00 x y z", 1440);
    }

    /** "the year 1970 .. 2999. In minutes since the beginning of 1970, the ZONE taken off". */
    private static void yearsThatCount() {
        dueDate("1 Jan 1970 00:00", 0);
        dueDate("1 Jan 1970 00:01", 1);
        dueDate("31 Dec 1969 23:59", 0);
        dueDate("31 Dec 1969 23:59 -0100", 0);
        dueDate("1 Jan 0000 00:05", 0);
        dueDate("31 Dec 2999 23:59", 541727999);
        dueDate("31 Dec 2999 23:59:60", 541727999);
        dueDate("31 Dec 2999 23:59 -2359", 541729438);
        dueDate("1 Jan 3000 00:00", 0);
        dueDate("1 Jan 3000 00:00 +0100", 0);
        dueDate("1 Jan 9999 00:00", 0);
        // it is the year that is told which must be there, not that of the minutes
        dueDate("1 Jan 1970 00:00 +0001", -1);
        dueDate("1 Jan 1970 00:00 +2359", -1439);
        dueDate("1 Jan 1970 01:00 +0100", 0);
    }

    /** "0 if it is not so." */
    private static void notSoDates() {
        DUE.is("no Date", Desk.aboutOf("Subject: a\n\nx", 3), 0);
        dueDate("", 0);
        dueDate("x", 0);
        dueDate("1", 0);
        dueDate("1 Jan", 0);
        dueDate("1 Jan 1970", 0);
        dueDate("Jan 1 1970 00:05", 0);
        dueDate("1 1970 Jan 00:05", 0);
        dueDate("00:05 1 Jan 1970", 0);
        dueDate("1970 Jan 1 00:05", 0);
    }

    // ---- ID, REFERENCES

    private static void ids() {
        firstAndNext();
        idBytes();
        idBlanks();
        inOrder();
        inReplyTo();
        sixteen();
    }

    private static void dueId(String value, String want) {
        due("Message-ID: " + value + "\n", ID, want);
        DUE.is("length of the ID of <" + value + ">", Desk.aboutOf("Message-ID: " + value + "\n", 9), want.length());
    }

    private static void dueReferences(String header, String want) {
        due(header, REFERENCES, want);
        DUE.is("references of <" + header + ">", Desk.aboutOf(header, 10), want.isEmpty() ? 0 : want.split(" ").length);
    }

    /** "ID: what stands between the first < in Message-ID and the next >". */
    private static void firstAndNext() {
        dueId("<a>", "a");
        dueId("x<a>y", "a");
        dueId("> <a> <b>", "a");
        dueId("<a<b>c>", "a<b");
        dueId("<<a>", "<a");
        dueId("<a", "");
        dueId("a>", "");
        dueId("a", "");
        dueId("", "");
        dueId("<", "");
        dueId("><", "");
        dueId("<A.b-C_\u00e9@[1]>", "A.b-C_\u00e9@[1]");
        due("Subject: a", ID, "");
        // the first < alone, also if it is not so
        dueId("<> <a>", "");
        dueId("<a b> <c>", "");
    }

    /** "if it is 1 to 60 bytes". */
    private static void idBytes() {
        dueId("<>", "");
        dueId("<a>", "a");
        dueId("<" + "i".repeat(59) + ">", "i".repeat(59));
        dueId("<" + "i".repeat(60) + ">", "i".repeat(60));
        dueId("<" + "i".repeat(61) + ">", "");
        dueId("<" + "i".repeat(200) + ">", "");
        dueReferences("References: <>", "");
        dueReferences("References: <a>", "a");
        dueReferences("References: <" + "i".repeat(60) + ">", "i".repeat(60));
        dueReferences("References: <" + "i".repeat(61) + ">", "");
        dueReferences("In-Reply-To: <" + "i".repeat(60) + ">", "i".repeat(60));
        dueReferences("In-Reply-To: <" + "i".repeat(61) + ">", "");
    }

    /** "without BLANKS". */
    private static void idBlanks() {
        dueId("<a b>", "");
        dueId("<a\tb>", "");
        dueId("< a>", "");
        dueId("<a >", "");
        dueId("< >", "");
        dueId("<a\u000bb>", "a\u000bb");
        dueId("<a\n b>", "");
        dueReferences("References: <a b> <c\td> < > <e>", "e");
    }

    /** "REFERENCES: all such in References, in order (each from a < to the next >, then on behind that)". */
    private static void inOrder() {
        dueReferences("References: <b> <a>", "b a");
        dueReferences("References: <a><b>,<c>x<a>", "a b c a");
        dueReferences("References: x<a>y>z<b>", "a b");
        dueReferences("References: <a<b> c> <d>", "a<b d");
        dueReferences("References: <a b <c> <d>", "d");
        dueReferences("References: <> <a> <" + "i".repeat(61) + "> <b>", "a b");
        dueReferences("References: <a> <b", "a");
        dueReferences("References: <a>\n <b>\n\t<c>", "a b c");
        dueReferences("References: <a> <A>", "a A");
        dueReferences("References: <a> <a> <a>", "a a a");
    }

    /** "if there are none, the first such in In-Reply-To". */
    private static void inReplyTo() {
        dueReferences("In-Reply-To: <a> <b>", "a");
        dueReferences("In-Reply-To: <> <a b> <c> <d>", "c");
        dueReferences("In-Reply-To: x", "");
        dueReferences("References: x\nIn-Reply-To: <a>", "a");
        dueReferences("References: <>\nIn-Reply-To: <a>", "a");
        dueReferences("References: <a b>\nIn-Reply-To: <c>", "c");
        dueReferences("In-Reply-To: <a>\nReferences: <b> <c>", "b c");
        dueReferences("Subject: <a>", "");
    }

    /** "the first 16 of them". */
    private static void sixteen() {
        int[] counts = {15, 16, 17, 40};
        for (int n : counts) {
            StringBuilder value = new StringBuilder("References:");
            StringBuilder want = new StringBuilder();
            for (int i = 0; i < n; i++) {
                value.append(" <r").append(i).append('>');
                want.append(i >= 16 ? "" : i == 0 ? "r" + i : " r" + i);
            }
            dueReferences(value.toString(), want.toString());
        }
        // what is not such is none of the 16
        dueReferences("References:" + " <> <a b>".repeat(20) + " <a>".repeat(17), "a".repeat(16).replace("a", "a ").trim());
    }
}
