/** Promises 4, 12 and 13: what is read of a mail's bytes. */
public final class MailTest {
    private static final Due DUE = new Due();
    private static final int FROM = 0;
    private static final int TO = 1;
    private static final int SUBJECT = 2;
    private static final int BODY = 3;
    private static final int ID = 5;
    private static final int REFERENCES = 6;

    public static void main(String[] args) {
        headers();
        encoded();
        words();
        codings();
        contents();
        parts();
        partsInOneAnother();
        dates();
        ids();
        asking();
        DUE.end();
    }

    private static void due(String mail, int field, String want) {
        Desk desk = new Desk();
        desk.add(mail);
        DUE.is("field " + field + " of <" + mail + ">", desk.texts(0, field), want);
        if (field <= BODY) {
            DUE.is("words in " + field, desk.archive().about(0, 5 + field),
                    want.isEmpty() ? 0 : want.split(" ").length);
        }
    }

    private static void headers() {
        due("", SUBJECT, "");
        due("", BODY, "");
        due("Subject: one", SUBJECT, "one");
        due("Subject: one\r\n\r\ntwo", SUBJECT, "one");
        due("Subject: one\r\n\r\ntwo", BODY, "two");
        due("sUBJECT:one\nFROM:two\nto:\tthree \n\nfour", SUBJECT, "one");
        due("sUBJECT:one\nFROM:two\nto:\tthree \n\nfour", FROM, "two");
        due("sUBJECT:one\nFROM:two\nto:\tthree \n\nfour", TO, "three");
        due("Subject: one\n two\n\t three\n  \n four\n\nfive", SUBJECT, "one two three four");
        due("Subject: one\n  \n\nfive", BODY, "five");
        due("Subject: one\nSubject: two\n three\n\n", SUBJECT, "one");
        due("Subject:\nSubject: two\n\n", SUBJECT, "");
        due("Subject: one\nX-Y-9: two\n three\nTo: four\n\n", SUBJECT, "one");
        due("Subject: one\nX-Y-9: two\n three\nTo: four\n\n", TO, "four");
        // a line that is no field is the body's first one
        due("Subject: one\nno field\nTo: three", BODY, "no field to three");
        due("Subject: one\nno field\nTo: three", TO, "");
        due(" Subject: one\n\ntwo", BODY, "subject one two");
        due(": one\n\ntwo", BODY, "one two");
        due("Subject : one\n\ntwo", BODY, "subject one two");
        due("Sub_ject: one\n\ntwo", BODY, "sub ject one two");
        due("\nSubject: one", BODY, "subject one");
        due("\r\nSubject: one", BODY, "subject one");
        due("Subject: one\n\r", BODY, "");
        due("Subject: one\n\rTo: x\n", BODY, "to x");
        due("Subject: a\nb: c\n\n\nd", BODY, "d");
        due("Subject: one:two\n", SUBJECT, "one two");
        due("Subject: one\r\n two\r\n\tZOO\r\n\r\nx", SUBJECT, "one two zoo");
        due("Content-Type:\n text/plain\r\n ;x\n\na", BODY, "a");
        due("Content-Type:   text/plain\t\n \n\na", BODY, "a");
    }

    private static void encoded() {
        due("Subject: =?utf-8?q?a=C3=b6_b?=", SUBJECT, "a\u00c3\u00b6 b");
        due("Subject: =?UTF-8?Q?W=C3=B6?=  \t =?us-ASCII?b?cmxk?= x", SUBJECT, "w\u00c3\u00b6rld x");
        due("Subject: =?utf-8?Q?a?==?utf-8?Q?b?=c", SUBJECT, "abc");
        due("Subject: =?utf-8?Q?a?=\n =?utf-8?Q?b?=", SUBJECT, "ab");
        due("Subject: =?utf-8?Q?a?= c =?utf-8?Q?b?=", SUBJECT, "a c b");
        due("From: x=?utf-8?B?YWI=?=y <=?us-ascii?q?z?=>", FROM, "xaby z");
        due("To: =?utf-8?Q?=4?=", TO, "4");
        due("To: =?utf-8?Q?a=?=", TO, "a");
        due("To: =?utf-8?Q?=4g=41?=", TO, "4ga");
        due("To: =?utf-8?Q??=a", TO, "a");
        // what is not so is itself
        due("Subject: =?latin1?Q?a?=", SUBJECT, "latin1 q a");
        due("Subject: =?utf-8?X?a?=", SUBJECT, "utf 8 x a");
        due("Subject: =?utf-8?QXa?=", SUBJECT, "utf 8 qxa");
        due("Subject: =?utf-8?Q?a b?=", SUBJECT, "utf 8 q a b");
        due("Subject: =?utf-8?Q?a?b?=", SUBJECT, "utf 8 q a b");
        due("Subject: =?utf-8?Q?a", SUBJECT, "utf 8 q a");
        due("Subject: =?utf-8?Q?a?", SUBJECT, "utf 8 q a");
        due("Subject: =?=?utf-8?Q?a?=", SUBJECT, "a");
        due("Subject: =?utf-8?Q?a?=?utf-8?Q?b?=", SUBJECT, "a utf 8 q b");
        due("\n=?utf-8?Q?a?=", BODY, "utf 8 q a");
        // four are three bytes, at the end three are two, two are one
        due("Subject: =?utf-8?B?YWJj?=", SUBJECT, "abc");
        due("Subject: =?utf-8?B?YWI?=", SUBJECT, "ab");
        due("Subject: =?utf-8?B?YQ?=", SUBJECT, "a");
        due("Subject: =?utf-8?B?YWJjZ?=", SUBJECT, "abc");
        due("Subject: =?utf-8?B?Y.W=J-j?=", SUBJECT, "abc");
        due("Subject: =?utf-8?B?/+/+?=", SUBJECT, "\u00ff\u00ef\u00fe");
        due("Subject: =?utf-8?B?WloZ?=x", SUBJECT, "zz x");
    }

    private static void words() {
        due("\nAbC,d.E\u00c9-9 \u0080\u00ff_x\u007fz@[`{", BODY, "abc d e\u00c9 9 \u0080\u00ff x z");
        due("\nabcdefghijklmnopq 1234567890123456", BODY, "abcdefghijklmnop 1234567890123456");
        Desk desk = new Desk();
        desk.add("\n" + "a ".repeat(199) + "b c");
        DUE.is("the first 200", desk.archive().about(0, 8), 200);
        DUE.is("the last of them", desk.text(0, BODY, 199), "b");
        DUE.is("no more", desk.text(0, BODY, 200), "");
        DUE.is("c is not found", desk.find("c"), "");
        DUE.is("b is found", desk.find("b"), "0");
        Desk other = new Desk();
        other.add("Subject:" + "a ".repeat(300) + "c\n\nb");
        DUE.is("a subject has all", other.archive().about(0, 7), 301);
        DUE.is("and the body its own", other.texts(0, BODY), "b");
    }

    private static void codings() {
        String quoted = "Content-Transfer-Encoding: quoted-printable\n\n";
        due(quoted + "a=41=4A=4a", BODY, "aajj");
        due(quoted + "soft=\nline=\r\nend", BODY, "softlineend");
        due(quoted + "soft= \t\nline", BODY, "softline");
        due(quoted + "a =\nb", BODY, "a b");
        due(quoted + "a\nb", BODY, "a b");
        due(quoted + "a=4\n1", BODY, "a 4 1");
        due(quoted + "=4=\n1", BODY, "41");
        due(quoted + "a=zz==", BODY, "a zz");
        due(quoted + "a=", BODY, "a");
        due(quoted + "a_b", BODY, "a b");
        due(quoted + "=39=30=c3=BF=Ff=fF=AA=Ee", BODY, "90\u00c3\u00bf\u00ff\u00ff\u00aa\u00ee");
        due(quoted + "=3G=G3=@1=3/=:1=3`", BODY, "3g g3 1 3 1 3");
        due("Content-Transfer-Encoding: Quoted-PRINTABLE\n\n=41=", BODY, "a");
        due("Content-Transfer-Encoding: BASE64 \n\naGVs\nbG8\r\ngd29y bGQ=", BODY, "hello world");
        due("Content-Transfer-Encoding: base64x\n\naGVs", BODY, "agvs");
        due("Content-Transfer-Encoding: 8bit\n\na=41", BODY, "a 41");
        due("Content-Transfer-Encoding:\n\na=41", BODY, "a 41");
        due("Content-Transfer-Encoding: base64\nSubject: YWJj\n\n", SUBJECT, "ywjj");
    }

    private static void contents() {
        due("Content-Type: TEXT/plain; charset=x\n\na", BODY, "a");
        due("Content-Type: text/plain \t;x\n\na", BODY, "a");
        due("Content-Type:\n\na", BODY, "a");
        due("Content-Type: text/html\n\na", BODY, "");
        due("Content-Type: text/plainer\n\na", BODY, "");
        due("Content-Type: ;boundary=x\n\na", BODY, "");
        due("Content-Type: multipart/mixed\n\n--\na\n--", BODY, "");
        due("Content-Type: multipart; boundary=x\n\n--x\n\na\n--x--", BODY, "");
        due("Content-Type: xmultipart/a; boundary=x\n\n--x\n\na\n--x--", BODY, "");
    }

    private static void parts() {
        String mixed = "Content-Type: multipart/mixed; boundary=x\n\n";
        due(mixed + "ahead\n--x\n\none\n--x\n\ntwo\n--x--\nbehind", BODY, "one two");
        due(mixed + "--x\r\n\r\none\r\n--x \t\r\n\r\ntwo\r\n--x-- \r\nbehind", BODY, "one two");
        due(mixed + "--x\n\none\n--xy\n--x-\n -- x\ntwo", BODY, "one xy x x two");
        due(mixed + "--x\n\none", BODY, "one");
        due(mixed + "none", BODY, "");
        due(mixed + "--x--\n--x\n\none", BODY, "");
        due(mixed + "--x\n\none\n--x", BODY, "one");
        due(mixed + "--x\n--x\n\none", BODY, "one");
        due(mixed + "--x\nno header\n--x--", BODY, "no header");
        due(mixed + "--x\na: header\n--x--", BODY, "");
        due(mixed + "--x\nContent-Type: text/html\n\none\n--x\n\ntwo", BODY, "two");
        due(mixed + "--x\nContent-Transfer-Encoding: base64\n\nYQ==\n--x\nContent-Transfer-Encoding: base64\n\nYg", BODY, "a b");
        due(mixed + "--x\nContent-Transfer-Encoding: quoted-printable\n\na=\n--x\n\nb", BODY, "a b");
        due("Content-Transfer-Encoding: base64\n" + mixed + "--x\n\none\n--x--", BODY, "one");
        due("Content-Type: MULTIPART/x;a=b; Boundary=\"y z\" ;boundary=x\n\n--y z\n\none\n--x\n--y z--", BODY, "one x");
        due("Content-Type: multipart/x;\n boundary=x\n\n--x\n\none\n--x--", BODY, "one");
        due("Content-Type: multipart/x;boundary=\"a;b\"\n\n--\"a\n\none\n--\"a--", BODY, "one");
        due("Content-Type: multipart/x;boundary=\n\n--\n\none\n----", BODY, "");
        due("Content-Type: multipart/x;boundary=\"\"\n\n--\n\none\n----", BODY, "");
        due("Content-Type: multipart/x;boundary=\"\n\n--\"\n\none\n--\"--", BODY, "one");
        due("Content-Type: multipart/x;boundary=\"\"\n\n--\"\"\n\none", BODY, "");
        due("Content-Type: multipart/x;boundary=;boundary=x\n\n--x\n\none", BODY, "");
        due("Content-Type: multipart/x;xboundary=y;boundary=x\n\n--y\n\none\n--x\n\ntwo", BODY, "two");
        due("Content-Type: multipart/;boundary=x\n\n--x\n\none", BODY, "one");
        due("Content-Type: multipart/x;boundary=\"y\n \t z\"\n\n--y z\n\none", BODY, "one");
        due(mixed + "--x\n\na\n--x\n\nb\n--x\n\nc\n--x\n\nd\n--x\n\ne", BODY, "a b c d e");
        due("Content-Type: multipart/x;boundary=X\n\n--x\n\none\n--X\n\ntwo", BODY, "two");
        String forty = "b".repeat(40);
        due("Content-Type: multipart/x;boundary=" + forty + "\n\n--" + forty + "\n\none", BODY, "one");
        due("Content-Type: multipart/x;boundary=" + forty + "b\n\n--" + forty + "b\n\none", BODY, "");
    }

    private static void partsInOneAnother() {
        // w is in the fourth message, v in the fifth
        due("Content-Type: multipart/m;boundary=1\n\n--1\nContent-Type: multipart/m;boundary=2\n\n--2\n"
                + "Content-Type: multipart/m;boundary=3\n\n--3\n\nw\n--3\nContent-Type: multipart/m;boundary=4\n\n"
                + "--4\n\nv\n--4--\n--3--\n--2\n\nu\n--2--\nt\n--1\n\ns\n--1--\nr", BODY, "w u s");
        // a line of the outer boundary ends the inner parts too
        due("Content-Type: multipart/m;boundary=1\n\n--1\nContent-Type: multipart/m;boundary=2\n\n--2\n\na\n--1\n\nb\n--2\nc",
                BODY, "a b 2 c");
    }

    private static void dueDate(String date, int want) {
        Desk desk = new Desk();
        desk.add("Date: " + date);
        DUE.is("Date: " + date, desk.archive().about(0, 3), want);
    }

    private static void dates() {
        dueDate("Sat, 14 Nov 2026 18:58 +0100", 29911318);
        dueDate("1 jan 1970 00:01", 1);
        dueDate("1 JANUARY 1970 00:00:60", 0);
        dueDate("1 Jan 1970 01:01:59", 61);
        dueDate("1,Jan\t1970,,01:00 GMT +0100", 60);
        dueDate("1 Jan 1970 01:00 +0100", 0);
        dueDate("1 Jan 1970 00:00 +0100", -60);
        dueDate("1 Jan 1970 00:00 +2359", -1439);
        dueDate("1 Jan 1970 00:00 -2359", 1439);
        dueDate("1 Jan 1970 01:00 +2400", 60);
        dueDate("1 Jan 1970 01:00 +0060", 60);
        dueDate("1 Jan 1970 01:00 0100", 60);
        dueDate("1 Jan 1970 01:00 +01000", 60);
        dueDate("02 Feb 70 00:00", 32 * 1440);
        dueDate("1 Jan 49 00:00", 41551200);
        dueDate("1 Jan 50 00:00", 0);
        dueDate("1 Jan 00 00:00", 15778080);
        dueDate("29 Feb 2000 00:00", 15863040);
        dueDate("29 Feb 2100 00:00", 0);
        dueDate("29 Feb 2023 00:00", 0);
        dueDate("31 Apr 2023 00:00", 0);
        dueDate("0 Jan 2023 00:00", 0);
        dueDate("001 Jan 1971 00:00", 0);
        dueDate("31 Dec 2999 23:59", 541727999);
        dueDate("1 Jan 3000 00:00", 0);
        dueDate("31 Dec 1969 23:59", 0);
        dueDate("1 Ja 1971 00:00", 0);
        dueDate("1 Xan 1971 00:00", 0);
        dueDate("1 jan7 1971 00:00", 525600);
        dueDate("1 Jan 971 00:00", 0);
        dueDate("1 Jan 19710 00:00", 0);
        dueDate("1 Jan 1971 24:00", 0);
        dueDate("1 Jan 1971 00:60", 0);
        dueDate("1 Jan 1971 00:00:61", 0);
        dueDate("1 Jan 1971 0:00", 0);
        dueDate("1 Jan 1971 00:00:0", 0);
        dueDate("1 Jan 1971 00-00", 0);
        dueDate("1 Jan 1971", 0);
        dueDate("Mon 1 Jan 1971 00:00", 525600);
        dueDate("Mon. 1 Jan 1971 00:00", 0);
        dueDate("a b 1 Jan 1971 00:00", 0);
        dueDate("", 0);
        dueDate("Jan", 0);
        Desk desk = new Desk();
        desk.add("Date: x\nDate: 1 Jan 1971 00:00");
        DUE.is("the first Date counts", desk.archive().about(0, 3), 0);
    }

    private static void ids() {
        due("Message-ID: <a@b>", ID, "a@b");
        due("message-id: x <a@b> <c>", ID, "a@b");
        due("Message-ID: <a b> <c>", ID, "");
        due("Message-ID: <>", ID, "");
        due("Message-ID: < a>", ID, "");
        due("Message-ID: <\ta>", ID, "");
        due("Message-ID: <a\t>", ID, "");
        due("Message-ID: <a", ID, "");
        due("Message-ID: a> <b>", ID, "b");
        due("Message-ID: <a<b>", ID, "a<b");
        due("Message-ID: <" + "l".repeat(60) + ">", ID, "l".repeat(60));
        due("Message-ID: <" + "l".repeat(61) + ">", ID, "");
        due("References: <a> <b><A>x<b>", REFERENCES, "a b A b");
        due("References: <a b> <> <c <d> > <e", REFERENCES, "");
        due("References: <a b> <c> <d\n e> <f>", REFERENCES, "c f");
        due("References: none\nIn-Reply-To: <a b> <c> <d>", REFERENCES, "c");
        due("References: <x>\nIn-Reply-To: <a>", REFERENCES, "x");
        due("In-Reply-To: <a", REFERENCES, "");
        due("References: <" + "l".repeat(61) + "><" + "m".repeat(60) + ">", REFERENCES, "m".repeat(60));
        StringBuilder many = new StringBuilder("References:");
        StringBuilder first = new StringBuilder();
        for (int i = 0; i < 20; i++) {
            many.append("<r").append(i).append('>');
            first.append(i == 0 ? "r" : i < 16 ? " r" : "").append(i < 16 ? i : "");
        }
        due(many.toString(), REFERENCES, first.toString());
    }

    private static void asking() {
        Desk desk = new Desk();
        MailArchive x = desk.archive();
        desk.add("From: f\nTo: t1 t2\nSubject: s1 s2 s3\nMessage-ID: <id@x>\nReferences: <r1> <r2>\n"
                + "Date: 1 Jan 1970 00:09\n\nb1 b2 b3 b4");
        desk.tag(0, true, "tag");
        int[] want = {0, -1, 0, 9, 1, 1, 2, 3, 4, 4, 2};
        for (int what = 0; what < want.length; what++) {
            DUE.is("about(0, " + what + ")", x.about(0, what), want[what]);
            DUE.is("about(1, " + what + ")", x.about(1, what), MailArchive.NONE);
        }
        DUE.is("about(0, 11)", x.about(0, 11), MailArchive.NONE);
        DUE.is("about(0, -1)", x.about(0, -1), MailArchive.NONE);
        DUE.is("about(-1, 3)", x.about(-1, 3), MailArchive.NONE);
        DUE.is("at(0, 3, 3, 1)", x.at(0, 3, 3, 1), '4');
        DUE.is("at(0, 3, 3, 2)", x.at(0, 3, 3, 2), MailArchive.NONE);
        DUE.is("at(0, 4, 0, 2)", x.at(0, 4, 0, 2), 'g');
        DUE.is("at(0, 5, 0, 3)", x.at(0, 5, 0, 3), 'x');
        DUE.is("at(0, 5, 1, 0)", x.at(0, 5, 1, 0), MailArchive.NONE);
        DUE.is("at(0, 6, 1, 1)", x.at(0, 6, 1, 1), '2');
        int[] far = {Integer.MIN_VALUE, -1, 9, Integer.MAX_VALUE};
        for (int n : far) {
            for (int field = 0; field <= 6; field++) {
                DUE.is("at(0, " + field + ", " + n + ", 0)", x.at(0, field, n, 0), MailArchive.NONE);
                DUE.is("at(0, " + field + ", 0, " + n + ")", x.at(0, field, 0, n), MailArchive.NONE);
            }
            DUE.is("at(0, " + n + ", 0, 0)", x.at(0, n, 0, 0), MailArchive.NONE);
            DUE.is("at(" + n + ", 0, 0, 0)", x.at(n, 0, 0, 0), MailArchive.NONE);
        }
        DUE.is("at(0, 7, 0, 0)", x.at(0, 7, 0, 0), MailArchive.NONE);
        desk.add("");
        DUE.is("no ID", x.about(1, 9), 0);
        DUE.is("no byte of it", x.at(1, 5, 0, 0), MailArchive.NONE);
    }
}
