/** Promises 10, 11 and 12: what hangs together. */
public final class ThreadsTest {
    private static final Due DUE = new Due();

    public static void main(String[] args) {
        conversations();
        chains();
        sameIds();
        rings();
        moving();
        replies();
        eachOnce();
        DUE.end();
    }

    /** A mail of that ID ("" for none) and those references. */
    private static void add(Desk desk, String id, String references) {
        String header = id.isEmpty() ? "" : "Message-ID: <" + id + ">\n";
        String row = references.isEmpty() ? "" : "References: <" + references.replace(" ", "> <") + ">\n";
        desk.add(header + row + "\na");
    }

    /** Of each message its thread, its parent and how many are above. */
    private static void due(Desk desk, String call, String want) {
        StringBuilder all = new StringBuilder();
        for (int message = 0; message < desk.archive().count(1); message++) {
            all.append(message == 0 ? "" : " ").append(desk.archive().about(message, 0)).append(',')
                    .append(desk.archive().about(message, 1)).append(',').append(desk.archive().about(message, 2));
        }
        DUE.is(call, all.toString(), want);
    }

    private static void conversations() {
        Desk desk = new Desk();
        desk.add("Message-ID: <a>\nDate: 1 Jan 2000 00:00\n\nx");
        desk.add("Message-ID: <b>\nDate: 3 Jan 2000 00:00\n\nx");
        desk.add("References: <a>\nDate: 2 Jan 2000 00:00\n\nx");
        desk.add("References: <a>\nDate: 4 Jan 2000 00:00\n\ny");
        DUE.is("nothing is found yet", desk.archive().conversations(), 0);
        DUE.is("find", desk.find("x"), "1 2 0");
        DUE.is("thread(0) before", desk.archive().thread(0), MailArchive.NONE);
        DUE.is("conversations()", desk.archive().conversations(), 2);
        DUE.is("thread(0)", desk.archive().thread(0), 1);
        DUE.is("thread(1)", desk.archive().thread(1), 0);
        DUE.is("thread(2)", desk.archive().thread(2), MailArchive.NONE);
        DUE.is("thread(-1)", desk.archive().thread(-1), MailArchive.NONE);
        DUE.is("thread(max)", desk.archive().thread(Integer.MAX_VALUE), MailArchive.NONE);
        desk.remove(0);
        DUE.is("thread(1) is of the latest conversations()", desk.archive().thread(1), 0);
        DUE.is("find", desk.find("y"), "3");
        DUE.is("thread(0) is so too", desk.archive().thread(0), 1);
        DUE.is("conversations()", desk.archive().conversations(), 1);
        DUE.is("thread(0)", desk.archive().thread(0), 2);
        DUE.is("thread(1)", desk.archive().thread(1), MailArchive.NONE);
        desk.search("(");
        DUE.is("conversations() behind a refusal", desk.archive().conversations(), 1);
        DUE.is("find", desk.find("x or y"), "3 1 2");
        DUE.is("conversations()", desk.archive().conversations(), 2);
        DUE.is("thread(0), each once", desk.archive().thread(0), 2);
        DUE.is("thread(1)", desk.archive().thread(1), 1);
        desk.search("y");
        desk.remove(3);
        DUE.is("conversations() of what has gone", desk.archive().conversations(), 0);
        DUE.is("thread(0)", desk.archive().thread(0), MailArchive.NONE);
    }

    private static void chains() {
        Desk desk = new Desk();
        add(desk, "a", "");
        add(desk, "d", "a b c");
        due(desk, "b and c have no message", "0,-1,0 0,0,1");
        add(desk, "c", "");
        DUE.is("above d at once", desk.archive().about(1, 2), 2);
        due(desk, "c comes", "0,-1,0 0,2,2 0,0,1");
        add(desk, "", "x");
        add(desk, "", "x");
        DUE.is("thread of 4 at once", desk.archive().about(4, 0), 3);
        due(desk, "together under a node without a message", "0,-1,0 0,2,2 0,0,1 3,-1,0 3,-1,0");
        add(desk, "", "");
        desk.remove(0);
        DUE.is("parent of c at once", desk.archive().about(2, 1), MailArchive.NONE);
        due(desk, "a goes", "-1,-1,-1 1,2,1 1,-1,0 3,-1,0 3,-1,0 5,-1,0");
        desk.remove(1);
        due(desk, "d goes, and what it told of c", "-1,-1,-1 -1,-1,-1 2,-1,0 3,-1,0 3,-1,0 5,-1,0");
    }

    private static void sameIds() {
        Desk desk = new Desk();
        add(desk, "a", "");
        add(desk, "a", "");
        add(desk, "", "a");
        add(desk, "a", "a");
        due(desk, "the first has the node", "0,-1,0 1,-1,0 0,0,1 0,0,1");
        desk.remove(0);
        due(desk, "then the second", "-1,-1,-1 1,-1,0 1,1,1 1,1,1");
        Desk other = new Desk();
        add(other, "a", "");
        add(other, "A", "");
        due(other, "great letters are others", "0,-1,0 1,-1,0");
    }

    private static void rings() {
        Desk desk = new Desk();
        add(desk, "a", "a");
        due(desk, "not under itself", "0,-1,0");
        add(desk, "b", "a");
        add(desk, "c", "b");
        add(desk, "", "c a");
        due(desk, "a not under c, which is under it", "0,-1,0 0,0,1 0,1,2 0,0,1");
        Desk ring = new Desk();
        add(ring, "a", "b");
        add(ring, "b", "a");
        due(ring, "b not under a, which is under it", "0,1,1 0,-1,0");
        Desk repeated = new Desk();
        add(repeated, "", "a b a b a");
        add(repeated, "a", "");
        add(repeated, "b", "");
        due(repeated, "repeated ones", "0,1,1 0,-1,0 0,1,1");
    }

    private static void moving() {
        Desk desk = new Desk();
        add(desk, "p", "");
        add(desk, "q", "");
        add(desk, "", "p c");
        add(desk, "c", "q");
        due(desk, "c is off from p and under q", "0,-1,0 1,-1,0 1,3,2 1,1,1");
        Desk stays = new Desk();
        add(stays, "p", "");
        add(stays, "", "p c");
        add(stays, "c", "");
        due(stays, "c stays under p", "0,-1,0 0,2,2 0,0,1");
        Desk kept = new Desk();
        add(kept, "", "p c");
        add(kept, "", "q c");
        add(kept, "p", "");
        add(kept, "q", "");
        due(kept, "c is under p already, not q", "0,2,1 0,2,1 0,-1,0 3,-1,0");
        Desk refused = new Desk();
        add(refused, "", "p c d");
        add(refused, "c", "d");
        add(refused, "p", "");
        due(refused, "c can't be under d and stays under p", "0,1,2 0,2,1 0,-1,0");
        Desk same = new Desk();
        add(same, "", "p c");
        add(same, "c", "p");
        add(same, "p", "");
        due(same, "c is under p already", "0,1,2 0,2,1 0,-1,0");
    }

    /** The first thread of a conversation stands at more places than its first one. */
    private static void eachOnce() {
        Desk desk = new Desk();
        add(desk, "", "q");
        add(desk, "", "");
        add(desk, "", "q");
        add(desk, "", "q");
        DUE.is("find", desk.find("a"), "3 2 1 0");
        DUE.is("conversations()", desk.archive().conversations(), 2);
        DUE.is("thread(0)", desk.archive().thread(0), 0);
        DUE.is("thread(1)", desk.archive().thread(1), 1);
        DUE.is("conversations() again", desk.archive().conversations(), 2);
    }

    private static void replies() {
        Desk desk = new Desk();
        desk.add("Message-ID: <a>\n\n");
        desk.add("Message-ID: <b>\n\n");
        desk.add("In-Reply-To: <a> <b>\n\n");
        desk.add("References: <b>\nIn-Reply-To: <a>\n\n");
        due(desk, "In-Reply-To", "0,-1,0 1,-1,0 0,0,1 1,1,1");
    }
}
