/** Promises 7 and 8: what queries match, and where they are refused. */
public final class QueryTest {
    private static final Due DUE = new Due();

    public static void main(String[] args) {
        sets();
        phrases();
        fields();
        threadsAndIds();
        dates();
        wrongDates();
        faults();
        inOneAnother();
        DUE.end();
    }

    private static void due(Desk desk, String query, String want) {
        DUE.is("<" + query + ">", desk.find(query), want);
    }

    private static void sets() {
        Desk desk = new Desk();
        desk.add("\na");
        desk.add("\nb");
        desk.add("\na b");
        desk.add("\na c");
        due(desk, "", "3 2 1 0");
        due(desk, " \t ", "3 2 1 0");
        due(desk, "a", "3 2 0");
        due(desk, "a b", "2");
        due(desk, "a and b", "2");
        due(desk, "a or b", "3 2 1 0");
        due(desk, "not a", "1");
        due(desk, "not not a", "3 2 0");
        due(desk, "not a or c", "3 1");
        due(desk, "not (a or c)", "1");
        due(desk, "not a b", "1");
        due(desk, "b not a", "1");
        due(desk, "a and not b", "3 0");
        due(desk, "b or a c", "3 2 1");
        due(desk, "c a or b", "3 2 1");
        due(desk, "(b or a) c", "3");
        due(desk, "(b)(a)", "2");
        due(desk, "not(a)b", "1");
        due(desk, "not ((a) or not (b))", "1");
        due(desk, "((a or b) and not (a b)) not c", "1 0");
        due(desk, "c or(b)or\"c\"", "3 2 1");
        due(desk, "A", "3 2 0");
        due(desk, "not not not not not a", "1");
        // these are words, for or, and, not are of small letters
        due(desk, "a OR b", "");
        due(desk, "a AND b", "");
        due(desk, "Not", "");
        due(desk, "NOT b", "");
    }

    private static void phrases() {
        Desk desk = new Desk();
        desk.add("Subject: the end\n\nof the first day in abcdefghijklmnopqrst");
        desk.add("Subject: First\n\nday of or and not");
        due(desk, "\"the first\"", "0");
        due(desk, "\"first the\"", "");
        due(desk, "\"end of\"", "");
        due(desk, "first day", "1 0");
        due(desk, "first-day", "0");
        due(desk, "\"first day\"", "0");
        due(desk, "\"First... DAY!\"", "0");
        due(desk, "\"or and not\"", "1");
        due(desk, "\"not\"", "1");
        due(desk, "da*", "1 0");
        due(desk, "day*", "1 0");
        due(desk, "days*", "");
        due(desk, "*", "1 0");
        due(desk, "-*", "1 0");
        due(desk, "*day", "1 0");
        due(desk, "d*y", "");
        due(desk, "first-d*", "0");
        due(desk, "fir-day*", "");
        due(desk, "d-*", "1 0");
        due(desk, "da**", "1 0");
        due(desk, "\"da*\"", "");
        due(desk, "\"\"", "1 0");
        due(desk, "\" ,. \"", "1 0");
        due(desk, "not \"\"", "");
        due(desk, "abcdefghijklmnop", "0");
        due(desk, "abcdefghijklmnopxyz", "0");
        due(desk, "abcdefghijklmnopxyz*", "0");
        due(desk, "abcdefghijklmno", "");
        due(desk, "\"a b\"c", "");
        due(desk, "day\"of or\"", "1");
    }

    private static void fields() {
        Desk desk = new Desk();
        desk.add("From: ann <a@b.c>\nTo: bob\nSubject: cat\n\ndog");
        desk.add("From: bob\nTo: ann cat\nSubject: dog\n\ncat");
        due(desk, "from:ann", "0");
        due(desk, "from:Ann-a@b", "0");
        due(desk, "to:ann", "1");
        due(desk, "to:\"ann cat\"", "1");
        due(desk, "from:\"Ann a\"", "0");
        due(desk, "subject:\"dog\"", "1");
        due(desk, "body:\"dog\"", "0");
        due(desk, "to:\"ann cat\"dog", "1");
        due(desk, "subject:cat", "0");
        due(desk, "body:cat", "1");
        due(desk, "cat", "1 0");
        due(desk, "ann", "");
        due(desk, "from:a*", "0");
        due(desk, "from:ann* to:b*", "0");
        due(desk, "from:\"\"", "1 0");
        due(desk, "from:*", "1 0");
        due(desk, "from:ann\"dog\"", "0");
        due(desk, "not from:ann", "1");
        // other names are bytes alone, also the names in great letters
        due(desk, "From:ann", "");
        due(desk, "x:cat", "");
        due(desk, "subject:from:ann", "");
        desk.add("\nfrom ann");
        due(desk, "From:ann", "2");
        due(desk, "body:from:ann", "2");
    }

    private static void threadsAndIds() {
        Desk desk = new Desk();
        desk.add("Message-ID: <a@B>\n\n");
        desk.add("In-Reply-To: <a@B>\n\n");
        desk.add("\n");
        due(desk, "id:a@B", "0");
        due(desk, "id:a@b", "");
        due(desk, "id:a@", "");
        due(desk, "id:a@B*", "");
        due(desk, "not id:a@B", "2 1");
        due(desk, "thread:0", "1 0");
        due(desk, "thread:1", "");
        due(desk, "thread:2", "2");
        due(desk, "thread:000000002", "2");
        due(desk, "thread:999999999", "");
        desk.remove(0);
        due(desk, "thread:0", "");
        due(desk, "thread:1", "1");
        due(desk, "id:a@B", "");
    }

    private static void dates() {
        Desk desk = new Desk();
        desk.add("Date: 1 Jan 1970 00:01\n\n");
        desk.add("Date: 29 Feb 2000 23:59\n\n");
        desk.add("Date: 1 Mar 2000 00:00\n\n");
        desk.add("Date: 1 Jan 1970 00:00\n\n");
        desk.add("Date: 1 Jan 1970 00:00 +0001\n\n");
        due(desk, "date:19700101..", "2 1 0");
        due(desk, "date:20000229..20000229", "1");
        due(desk, "date:20000301..20000301", "2");
        due(desk, "date:20000302..", "");
        due(desk, "date:20000301..20000229", "");
        due(desk, "date:..20000229", "1 0 4");
        due(desk, "date:..19691231", "4");
        due(desk, "date:19691231..19691231", "4");
        due(desk, "date:00000101..99991231", "2 1 0 4");
        due(desk, "date:00000229..", "2 1 0 4");
        due(desk, "not date:19700101..", "3 4");
    }

    private static void wrongDates() {
        String[] wrong = {"date:", "date:..", "date:20000101", "date:20000101.", "date:20000101.20000102",
            "date:2000101..", "date:20000101..2000010", "date:20000101...", "date:...20000101", "date:20000101..200001011",
            "date:19000229..", "date:20000230..", "date:20000001..", "date:20001301..", "date:20000100..", "date:20000432..",
            "date:20000101..20000431", "date:x0000101..", "date:..abcdef..", "date:..2000-1-1", "date:\"20000101..\"",
            "date:20000101 ..", "date:20000101..20000102..", "date:-0000101.."};
        for (String query : wrong) {
            Desk desk = new Desk();
            due(desk, query, "fault 1");
            due(desk, "a  " + query, "fault 4");
        }
    }

    private static void faults() {
        Desk desk = new Desk();
        due(desk, "or", "fault 1");
        due(desk, " and", "fault 2");
        due(desk, "not", "fault 4");
        due(desk, "not  ", "fault 6");
        due(desk, "a or", "fault 5");
        due(desk, "a or \t", "fault 7");
        due(desk, "a and", "fault 6");
        due(desk, "a or or b", "fault 6");
        due(desk, "a and or b", "fault 7");
        due(desk, "a not or b", "fault 7");
        due(desk, "a and and b", "fault 7");
        due(desk, "(a", "fault 3");
        due(desk, "(", "fault 2");
        due(desk, "()", "fault 2");
        due(desk, "( )", "fault 3");
        due(desk, ")", "fault 1");
        due(desk, "a )", "fault 3");
        due(desk, "(a))", "fault 4");
        due(desk, "(a or )", "fault 7");
        due(desk, "(or a)", "fault 2");
        due(desk, "(a not)", "fault 7");
        due(desk, "\"", "fault 1");
        due(desk, "a \"b", "fault 3");
        due(desk, "\"a\" \"", "fault 5");
        due(desk, "from:", "fault 1");
        due(desk, "x from: y", "fault 3");
        due(desk, "from: \"y\"", "fault 1");
        due(desk, "from:(a)", "fault 1");
        due(desk, "x from:\"y", "fault 3");
        due(desk, "tag:\"x\"", "fault 1");
        due(desk, "x id:", "fault 3");
        due(desk, "thread:x", "fault 1");
        due(desk, "thread:-1", "fault 1");
        due(desk, "thread:1a", "fault 1");
        due(desk, "thread:1234567890", "fault 1");
        desk = new Desk();
        desk.add("\na");
        due(desk, "or \"", "fault 1");
        due(desk, "a ) \"", "fault 3");
        DUE.is("fault() again", desk.archive().fault(), 3);
        due(desk, "a", "0");
        DUE.is("fault() of the latest", desk.archive().fault(), 0);
        // nothing of a query that was refused comes to the next one
        due(desk, "not", "fault 4");
        due(desk, "a", "0");
        due(desk, "(not", "fault 5");
        due(desk, "(a)", "0");
        due(desk, "(a or", "fault 6");
        due(desk, "b", "");
        due(desk, "b and (", "fault 8");
        due(desk, "(a)", "0");
    }

    private static void inOneAnother() {
        Desk desk = new Desk();
        desk.add("\na");
        due(desk, "(".repeat(20) + "a" + ")".repeat(20), "0");
        due(desk, "(".repeat(21) + "a" + ")".repeat(21), "fault 21");
        due(desk, "(a) ".repeat(30) + "(".repeat(20) + "a" + ")".repeat(20), "0");
        due(desk, "(".repeat(20) + "a" + ")".repeat(21), "fault 42");
        due(desk, "((((a))))", "0");
        desk = new Desk();
        desk.add("\na");
        due(desk, "not ".repeat(299) + "a", "");
        due(desk, "not ".repeat(298) + "a", "0");
        due(desk, "not(".repeat(20) + "a" + ")".repeat(20), "0");
        due(desk, "not(".repeat(19) + "a" + ")".repeat(19), "");
        desk = new Desk();
        desk.add("\na");
        due(desk, "a ".repeat(600), "0");
        due(desk, "(".repeat(1200), "fault 21");
    }
}
